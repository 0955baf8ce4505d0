theorem gd_X11_lies : wsX11_lies.all goodWord = true := by decide +kernel
set_option maxRecDepth 20000 in
theorem ggX11_lies_X11_refuse : GoodIn wsX11_lies wsX11_refuse := goodIn_by gd_X11_lies (List.forall_mem_cons.mpr ⟨List.mem_cons_of_mem _ (List.mem_append_left _ (List.mem_append_left _ (List.mem_of_getElem? (i := 5) rfl))), List.forall_mem_append.mpr ⟨List.forall_mem_cons.mpr ⟨List.mem_cons_of_mem _ (List.mem_append_left _ (List.mem_append_left _ (List.mem_of_getElem? (i := 6) rfl))), nowords_in⟩, (fun _ h => List.mem_cons_of_mem _ (List.mem_append_right _ (h)))⟩⟩)
set_option maxRecDepth 20000 in
theorem gX11_lies_X11_refuse : GoodIn wsX11_lies (wsV RX11 75 RX11 yX11_refuse wsX11_refuse) := goodIn_app (goodIn_by gd_X11_lies (List.forall_mem_cons.mpr ⟨List.mem_cons_of_mem _ (List.mem_append_left _ (List.mem_append_left _ (List.mem_of_getElem? (i := 1) rfl))), List.forall_mem_cons.mpr ⟨List.mem_cons_of_mem _ (List.mem_append_left _ (List.mem_append_left _ (List.mem_of_getElem? (i := 2) rfl))), List.forall_mem_cons.mpr ⟨List.mem_cons_of_mem _ (List.mem_append_left _ (List.mem_append_left _ (List.mem_of_getElem? (i := 3) rfl))), List.forall_mem_cons.mpr ⟨List.mem_cons_of_mem _ (List.mem_append_left _ (List.mem_append_left _ (List.mem_of_getElem? (i := 4) rfl))), nowords_in⟩⟩⟩⟩)) ggX11_lies_X11_refuse
set_option maxRecDepth 20000 in
theorem ggX11_lies_X11_keptOf : GoodIn wsX11_lies wsX11_keptOf := goodIn_by gd_X11_lies (List.forall_mem_cons.mpr ⟨List.mem_cons_of_mem _ (List.mem_append_left _ (List.mem_append_left _ (List.mem_of_getElem? (i := 10) rfl))), List.forall_mem_append.mpr ⟨List.forall_mem_append.mpr ⟨List.forall_mem_cons.mpr ⟨List.mem_cons_of_mem _ (List.mem_append_left _ (List.mem_append_left _ (List.mem_of_getElem? (i := 0) rfl))), List.forall_mem_cons.mpr ⟨List.mem_cons_of_mem _ (List.mem_append_left _ (List.mem_append_left _ (List.mem_of_getElem? (i := 11) rfl))), List.forall_mem_cons.mpr ⟨List.mem_cons_of_mem _ (List.mem_append_left _ (List.mem_append_left _ (List.mem_of_getElem? (i := 12) rfl))), List.forall_mem_cons.mpr ⟨List.mem_cons_of_mem _ (List.mem_append_left _ (List.mem_append_left _ (List.mem_of_getElem? (i := 13) rfl))), List.forall_mem_cons.mpr ⟨List.mem_cons_of_mem _ (List.mem_append_left _ (List.mem_append_left _ (List.mem_of_getElem? (i := 4) rfl))), List.forall_mem_cons.mpr ⟨List.mem_cons_of_mem _ (List.mem_append_left _ (List.mem_append_left _ (List.mem_of_getElem? (i := 14) rfl))), List.forall_mem_cons.mpr ⟨List.mem_cons_of_mem _ (List.mem_append_left _ (List.mem_append_left _ (List.mem_of_getElem? (i := 15) rfl))), List.forall_mem_cons.mpr ⟨List.mem_cons_of_mem _ (List.mem_append_left _ (List.mem_append_left _ (List.mem_of_getElem? (i := 16) rfl))), List.forall_mem_cons.mpr ⟨List.mem_cons_of_mem _ (List.mem_append_left _ (List.mem_append_left _ (List.mem_of_getElem? (i := 17) rfl))), List.forall_mem_cons.mpr ⟨List.mem_cons_of_mem _ (List.mem_append_left _ (List.mem_append_left _ (List.mem_of_getElem? (i := 18) rfl))), List.forall_mem_cons.mpr ⟨List.mem_cons_of_mem _ (List.mem_append_left _ (List.mem_append_left _ (List.mem_of_getElem? (i := 19) rfl))), List.forall_mem_cons.mpr ⟨List.mem_cons_of_mem _ (List.mem_append_left _ (List.mem_append_left _ (List.mem_of_getElem? (i := 20) rfl))), List.forall_mem_cons.mpr ⟨List.mem_cons_of_mem _ (List.mem_append_left _ (List.mem_append_left _ (List.mem_of_getElem? (i := 21) rfl))), List.forall_mem_cons.mpr ⟨List.mem_cons_of_mem _ (List.mem_append_left _ (List.mem_append_left _ (List.mem_of_getElem? (i := 22) rfl))), List.forall_mem_cons.mpr ⟨List.mem_cons_of_mem _ (List.mem_append_left _ (List.mem_append_left _ (List.mem_of_getElem? (i := 23) rfl))), List.forall_mem_cons.mpr ⟨List.mem_cons_of_mem _ (List.mem_append_left _ (List.mem_append_right _ (List.mem_append_left _ (List.mem_of_getElem? (i := 0) rfl)))), List.forall_mem_cons.mpr ⟨List.mem_cons_of_mem _ (List.mem_append_left _ (List.mem_append_right _ (List.mem_append_left _ (List.mem_of_getElem? (i := 1) rfl)))), List.forall_mem_cons.mpr ⟨List.mem_cons_of_mem _ (List.mem_append_left _ (List.mem_append_right _ (List.mem_append_left _ (List.mem_of_getElem? (i := 2) rfl)))), List.forall_mem_cons.mpr ⟨List.mem_cons_of_mem _ (List.mem_append_left _ (List.mem_append_right _ (List.mem_append_left _ (List.mem_of_getElem? (i := 3) rfl)))), List.forall_mem_cons.mpr ⟨List.mem_cons_of_mem _ (List.mem_append_left _ (List.mem_append_right _ (List.mem_append_left _ (List.mem_of_getElem? (i := 4) rfl)))), List.forall_mem_cons.mpr ⟨List.mem_cons_of_mem _ (List.mem_append_left _ (List.mem_append_right _ (List.mem_append_left _ (List.mem_of_getElem? (i := 5) rfl)))), List.forall_mem_cons.mpr ⟨List.mem_cons_of_mem _ (List.mem_append_left _ (List.mem_append_right _ (List.mem_append_left _ (List.mem_of_getElem? (i := 6) rfl)))), List.forall_mem_cons.mpr ⟨List.mem_cons_of_mem _ (List.mem_append_left _ (List.mem_append_right _ (List.mem_append_left _ (List.mem_of_getElem? (i := 7) rfl)))), List.forall_mem_cons.mpr ⟨List.mem_cons_of_mem _ (List.mem_append_left _ (List.mem_append_right _ (List.mem_append_left _ (List.mem_of_getElem? (i := 8) rfl)))), nowords_in⟩⟩⟩⟩⟩⟩⟩⟩⟩⟩⟩⟩⟩⟩⟩⟩⟩⟩⟩⟩⟩⟩⟩⟩, List.forall_mem_cons.mpr ⟨List.mem_cons_of_mem _ (List.mem_append_left _ (List.mem_append_right _ (List.mem_append_left _ (List.mem_of_getElem? (i := 9) rfl)))), List.forall_mem_cons.mpr ⟨List.mem_cons_of_mem _ (List.mem_append_left _ (List.mem_append_right _ (List.mem_append_left _ (List.mem_of_getElem? (i := 10) rfl)))), List.forall_mem_cons.mpr ⟨List.mem_cons_of_mem _ (List.mem_append_left _ (List.mem_append_right _ (List.mem_append_left _ (List.mem_of_getElem? (i := 11) rfl)))), List.forall_mem_cons.mpr ⟨List.mem_cons_of_mem _ (List.mem_append_left _ (List.mem_append_right _ (List.mem_append_left _ (List.mem_of_getElem? (i := 12) rfl)))), List.forall_mem_cons.mpr ⟨List.mem_cons_of_mem _ (List.mem_append_left _ (List.mem_append_right _ (List.mem_append_left _ (List.mem_of_getElem? (i := 13) rfl)))), List.forall_mem_cons.mpr ⟨List.mem_cons_of_mem _ (List.mem_append_left _ (List.mem_append_right _ (List.mem_append_left _ (List.mem_of_getElem? (i := 14) rfl)))), List.forall_mem_cons.mpr ⟨List.mem_cons_of_mem _ (List.mem_append_left _ (List.mem_append_right _ (List.mem_append_left _ (List.mem_of_getElem? (i := 15) rfl)))), List.forall_mem_cons.mpr ⟨List.mem_cons_of_mem _ (List.mem_append_left _ (List.mem_append_right _ (List.mem_append_left _ (List.mem_of_getElem? (i := 16) rfl)))), List.forall_mem_cons.mpr ⟨List.mem_cons_of_mem _ (List.mem_append_left _ (List.mem_append_right _ (List.mem_append_left _ (List.mem_of_getElem? (i := 17) rfl)))), List.forall_mem_cons.mpr ⟨List.mem_cons_of_mem _ (List.mem_append_left _ (List.mem_append_right _ (List.mem_append_left _ (List.mem_of_getElem? (i := 18) rfl)))), nowords_in⟩⟩⟩⟩⟩⟩⟩⟩⟩⟩⟩, (fun _ h => List.mem_cons_of_mem _ (List.mem_append_right _ (h)))⟩⟩)
set_option maxRecDepth 20000 in
theorem gX11_lies_X11_keptOf : GoodIn wsX11_lies (wsV RX11 338 RX11 yX11_keptOf wsX11_keptOf) := goodIn_app (goodIn_by gd_X11_lies (List.forall_mem_cons.mpr ⟨List.mem_cons_of_mem _ (List.mem_append_left _ (List.mem_append_left _ (List.mem_of_getElem? (i := 7) rfl))), List.forall_mem_cons.mpr ⟨List.mem_cons_of_mem _ (List.mem_append_left _ (List.mem_append_left _ (List.mem_of_getElem? (i := 8) rfl))), List.forall_mem_cons.mpr ⟨List.mem_cons_of_mem _ (List.mem_append_left _ (List.mem_append_left _ (List.mem_of_getElem? (i := 9) rfl))), List.forall_mem_cons.mpr ⟨List.mem_cons_of_mem _ (List.mem_append_left _ (List.mem_append_left _ (List.mem_of_getElem? (i := 4) rfl))), nowords_in⟩⟩⟩⟩)) ggX11_lies_X11_keptOf
set_option maxRecDepth 20000 in
theorem ggX11_lies_X11_turnsRound : GoodIn wsX11_lies wsX11_turnsRound := goodIn_by gd_X11_lies (List.forall_mem_cons.mpr ⟨List.mem_cons_of_mem _ (List.mem_append_left _ (List.mem_append_right _ (List.mem_append_left _ (List.mem_of_getElem? (i := 22) rfl)))), List.forall_mem_append.mpr ⟨List.forall_mem_cons.mpr ⟨List.mem_cons_of_mem _ (List.mem_append_left _ (List.mem_append_left _ (List.mem_of_getElem? (i := 0) rfl))), List.forall_mem_cons.mpr ⟨List.mem_cons_of_mem _ (List.mem_append_left _ (List.mem_append_right _ (List.mem_append_left _ (List.mem_of_getElem? (i := 12) rfl)))), List.forall_mem_cons.mpr ⟨List.mem_cons_of_mem _ (List.mem_append_left _ (List.mem_append_right _ (List.mem_append_left _ (List.mem_of_getElem? (i := 13) rfl)))), List.forall_mem_cons.mpr ⟨List.mem_cons_of_mem _ (List.mem_append_left _ (List.mem_append_left _ (List.mem_of_getElem? (i := 4) rfl))), List.forall_mem_cons.mpr ⟨List.mem_cons_of_mem _ (List.mem_append_left _ (List.mem_append_right _ (List.mem_append_left _ (List.mem_of_getElem? (i := 14) rfl)))), nowords_in⟩⟩⟩⟩⟩, (fun _ h => List.mem_cons_of_mem _ (List.mem_append_right _ (h)))⟩⟩)
set_option maxRecDepth 20000 in
theorem gX11_lies_X11_turnsRound : GoodIn wsX11_lies (wsV RX11 289 RX11 yX11_turnsRound wsX11_turnsRound) := goodIn_app (goodIn_by gd_X11_lies (List.forall_mem_cons.mpr ⟨List.mem_cons_of_mem _ (List.mem_append_left _ (List.mem_append_right _ (List.mem_append_left _ (List.mem_of_getElem? (i := 19) rfl)))), List.forall_mem_cons.mpr ⟨List.mem_cons_of_mem _ (List.mem_append_left _ (List.mem_append_right _ (List.mem_append_left _ (List.mem_of_getElem? (i := 20) rfl)))), List.forall_mem_cons.mpr ⟨List.mem_cons_of_mem _ (List.mem_append_left _ (List.mem_append_right _ (List.mem_append_left _ (List.mem_of_getElem? (i := 21) rfl)))), List.forall_mem_cons.mpr ⟨List.mem_cons_of_mem _ (List.mem_append_left _ (List.mem_append_left _ (List.mem_of_getElem? (i := 4) rfl))), nowords_in⟩⟩⟩⟩)) ggX11_lies_X11_turnsRound
set_option maxRecDepth 20000 in
theorem ggX11_lies_X11_gives : GoodIn wsX11_lies wsX11_gives := goodIn_by gd_X11_lies (List.forall_mem_cons.mpr ⟨List.mem_cons_of_mem _ (List.mem_append_left _ (List.mem_append_right _ (List.mem_append_right _ (List.mem_of_getElem? (i := 2) rfl)))), List.forall_mem_append.mpr ⟨List.forall_mem_cons.mpr ⟨List.mem_cons_of_mem _ (List.mem_append_left _ (List.mem_append_left _ (List.mem_of_getElem? (i := 6) rfl))), nowords_in⟩, (fun _ h => List.mem_cons_of_mem _ (List.mem_append_right _ (h)))⟩⟩)
set_option maxRecDepth 20000 in
theorem gX11_lies_X11_gives : GoodIn wsX11_lies (wsV RX11 79 RX11 yX11_gives wsX11_gives) := goodIn_app (goodIn_by gd_X11_lies (List.forall_mem_cons.mpr ⟨List.mem_cons_of_mem _ (List.mem_append_left _ (List.mem_append_right _ (List.mem_append_left _ (List.mem_of_getElem? (i := 23) rfl)))), List.forall_mem_cons.mpr ⟨List.mem_cons_of_mem _ (List.mem_append_left _ (List.mem_append_right _ (List.mem_append_right _ (List.mem_of_getElem? (i := 0) rfl)))), List.forall_mem_cons.mpr ⟨List.mem_cons_of_mem _ (List.mem_append_left _ (List.mem_append_right _ (List.mem_append_right _ (List.mem_of_getElem? (i := 1) rfl)))), List.forall_mem_cons.mpr ⟨List.mem_cons_of_mem _ (List.mem_append_left _ (List.mem_append_left _ (List.mem_of_getElem? (i := 4) rfl))), nowords_in⟩⟩⟩⟩)) ggX11_lies_X11_gives
theorem dX11_lies_0 : decode cX11_lies 0 = .ok (.iload_n 1, 1) := by decide +kernel
theorem dX11_lies_1 : decode cX11_lies 1 = .ok (.ifCond .lt 8, 3) := by decide +kernel
theorem dX11_lies_4 : decode cX11_lies 4 = .ok (.iload_n 1, 1) := by decide +kernel
theorem dX11_lies_5 : decode cX11_lies 5 = .ok (.iconst 1, 1) := by decide +kernel
theorem dX11_lies_6 : decode cX11_lies 6 = .ok (.if_icmp .le 9, 3) := by decide +kernel
theorem dX11_lies_9 : decode cX11_lies 9 = .ok (.aload_n 0, 1) := by decide +kernel
theorem dX11_lies_10 : decode cX11_lies 10 = .ok (.iconst 1, 1) := by decide +kernel
theorem dX11_lies_11 : decode cX11_lies 11 = .ok (.invokevirtual 75, 3) := by decide +kernel
theorem dX11_lies_14 : decode cX11_lies 14 = .ok (.ireturn, 1) := by decide +kernel
theorem dX11_lies_15 : decode cX11_lies 15 = .ok (.aload_n 0, 1) := by decide +kernel
theorem dX11_lies_16 : decode cX11_lies 16 = .ok (.invokevirtual 338, 3) := by decide +kernel
theorem dX11_lies_19 : decode cX11_lies 19 = .ok (.istore_n 2, 1) := by decide +kernel
theorem dX11_lies_20 : decode cX11_lies 20 = .ok (.iconst 0, 1) := by decide +kernel
theorem dX11_lies_21 : decode cX11_lies 21 = .ok (.istore_n 3, 1) := by decide +kernel
theorem dX11_lies_22 : decode cX11_lies 22 = .ok (.iconst 0, 1) := by decide +kernel
theorem dX11_lies_23 : decode cX11_lies 23 = .ok (.istore 4, 2) := by decide +kernel
theorem dX11_lies_25 : decode cX11_lies 25 = .ok (.iload 4, 2) := by decide +kernel
theorem dX11_lies_27 : decode cX11_lies 27 = .ok (.aload_n 0, 1) := by decide +kernel
theorem dX11_lies_28 : decode cX11_lies 28 = .ok (.getfield 7, 3) := by decide +kernel
theorem dX11_lies_31 : decode cX11_lies 31 = .ok (.iconst 0, 1) := by decide +kernel
theorem dX11_lies_32 : decode cX11_lies 32 = .ok (.iaload, 1) := by decide +kernel
theorem dX11_lies_33 : decode cX11_lies 33 = .ok (.if_icmp .ge 82, 3) := by decide +kernel
theorem dX11_lies_36 : decode cX11_lies 36 = .ok (.iconst 0, 1) := by decide +kernel
theorem dX11_lies_37 : decode cX11_lies 37 = .ok (.istore 5, 2) := by decide +kernel
theorem dX11_lies_39 : decode cX11_lies 39 = .ok (.iload 5, 2) := by decide +kernel
theorem dX11_lies_41 : decode cX11_lies 41 = .ok (.aload_n 0, 1) := by decide +kernel
theorem dX11_lies_42 : decode cX11_lies 42 = .ok (.getfield 7, 3) := by decide +kernel
theorem dX11_lies_45 : decode cX11_lies 45 = .ok (.iconst 1, 1) := by decide +kernel
theorem dX11_lies_46 : decode cX11_lies 46 = .ok (.iaload, 1) := by decide +kernel
theorem dX11_lies_47 : decode cX11_lies 47 = .ok (.if_icmp .ge 62, 3) := by decide +kernel
theorem dX11_lies_50 : decode cX11_lies 50 = .ok (.aload_n 0, 1) := by decide +kernel
theorem dX11_lies_51 : decode cX11_lies 51 = .ok (.iload 4, 2) := by decide +kernel
theorem dX11_lies_53 : decode cX11_lies 53 = .ok (.iload 5, 2) := by decide +kernel
theorem dX11_lies_55 : decode cX11_lies 55 = .ok (.invokevirtual 289, 3) := by decide +kernel
theorem dX11_lies_58 : decode cX11_lies 58 = .ok (.pop, 1) := by decide +kernel
theorem dX11_lies_59 : decode cX11_lies 59 = .ok (.aload_n 0, 1) := by decide +kernel
theorem dX11_lies_60 : decode cX11_lies 60 = .ok (.invokevirtual 338, 3) := by decide +kernel
theorem dX11_lies_63 : decode cX11_lies 63 = .ok (.istore 6, 2) := by decide +kernel
theorem dX11_lies_65 : decode cX11_lies 65 = .ok (.aload_n 0, 1) := by decide +kernel
theorem dX11_lies_66 : decode cX11_lies 66 = .ok (.iload 4, 2) := by decide +kernel
theorem dX11_lies_68 : decode cX11_lies 68 = .ok (.iload 5, 2) := by decide +kernel
theorem dX11_lies_70 : decode cX11_lies 70 = .ok (.invokevirtual 289, 3) := by decide +kernel
theorem dX11_lies_73 : decode cX11_lies 73 = .ok (.pop, 1) := by decide +kernel
theorem dX11_lies_74 : decode cX11_lies 74 = .ok (.iload_n 3, 1) := by decide +kernel
theorem dX11_lies_75 : decode cX11_lies 75 = .ok (.iload_n 1, 1) := by decide +kernel
theorem dX11_lies_76 : decode cX11_lies 76 = .ok (.ifCond .ne 9, 3) := by decide +kernel
theorem dX11_lies_79 : decode cX11_lies 79 = .ok (.iload 6, 2) := by decide +kernel
theorem dX11_lies_81 : decode cX11_lies 81 = .ok (.iload_n 2, 1) := by decide +kernel
theorem dX11_lies_82 : decode cX11_lies 82 = .ok (.if_icmp .lt 14, 3) := by decide +kernel
theorem dX11_lies_85 : decode cX11_lies 85 = .ok (.iload_n 1, 1) := by decide +kernel
theorem dX11_lies_86 : decode cX11_lies 86 = .ok (.iconst 1, 1) := by decide +kernel
theorem dX11_lies_87 : decode cX11_lies 87 = .ok (.if_icmp .ne 13, 3) := by decide +kernel
theorem dX11_lies_90 : decode cX11_lies 90 = .ok (.iload 6, 2) := by decide +kernel
theorem dX11_lies_92 : decode cX11_lies 92 = .ok (.iload_n 2, 1) := by decide +kernel
theorem dX11_lies_93 : decode cX11_lies 93 = .ok (.if_icmp .le 7, 3) := by decide +kernel
theorem dX11_lies_96 : decode cX11_lies 96 = .ok (.iconst 1, 1) := by decide +kernel
theorem dX11_lies_97 : decode cX11_lies 97 = .ok (.goto 4, 3) := by decide +kernel
theorem dX11_lies_100 : decode cX11_lies 100 = .ok (.iconst 0, 1) := by decide +kernel
theorem dX11_lies_101 : decode cX11_lies 101 = .ok (.iadd, 1) := by decide +kernel
theorem dX11_lies_102 : decode cX11_lies 102 = .ok (.istore_n 3, 1) := by decide +kernel
theorem dX11_lies_103 : decode cX11_lies 103 = .ok (.iinc 5 1, 3) := by decide +kernel
theorem dX11_lies_106 : decode cX11_lies 106 = .ok (.goto (-67), 3) := by decide +kernel
theorem dX11_lies_109 : decode cX11_lies 109 = .ok (.iinc 4 1, 3) := by decide +kernel
theorem dX11_lies_112 : decode cX11_lies 112 = .ok (.goto (-87), 3) := by decide +kernel
theorem dX11_lies_115 : decode cX11_lies 115 = .ok (.aload_n 0, 1) := by decide +kernel
theorem dX11_lies_116 : decode cX11_lies 116 = .ok (.iload_n 3, 1) := by decide +kernel
theorem dX11_lies_117 : decode cX11_lies 117 = .ok (.invokevirtual 79, 3) := by decide +kernel
theorem dX11_lies_120 : decode cX11_lies 120 = .ok (.ireturn, 1) := by decide +kernel
abbrev rmX11_lies : Room := { frames := 5, cells := 0, slots := 0, locals := 114 }
set_option maxHeartbeats 4000000 in
set_option maxRecDepth 100000 in
theorem kX11_lies (l : Launch) (D : va_G) (cy : Nat → ClassId) (h0 : Nat) (a0 : Nat → Nat) (s0 : Rc) (p1 : Int32) (res : Int32 × Rc) (h : fX11_lies p1 s0 = some res) : CI l D cy yX11_lies wsX11_lies rmX11_lies [.ref h0, .int p1] (flat [WX11 cy h0 a0 s0]) (flat [WX11 cy h0 a0 res.2]) res.1 := by
  refine CI.of (cc := cX11_lies) (maxL := 7) (by decide) rfl (Nat.le_of_ble_eq_true rfl) ?_
  intro p e s m args below meth c A QQ ls E hr
  obtain ⟨hx, hb, hml, hown, hts, hK, hN, hP, hD, hA, hl⟩ := E
  have hret : ∀ (pc : Nat) (H : Heap) (locs : List Loc) (ls : Array Slot) (u : Int32 × Rc), u = res → va_P D vwCl (flat [WX11 cy h0 a0 u.2]) H → va_D A (flat [WX11 cy h0 a0 u.2]) → va_S A s.heap H locs → decode cX11_lies pc = .ok (.ireturn, 1) → W p l e rmX11_lies s m args below meth c H locs 0 0 QQ (F0 m pc ls [.int u.1]) := by
    intro pc H locs ls u hu hP hD hS hd; subst hu; exact hr pc H locs ls _ rfl hP hD hS hd
  clear hr
  have hl : lv_has ls 7 [(0, .ref h0), (1, .int p1)] := hl
  have hinX11 : ∀ w ∈ wsX110, w ∈ wsX11_lies := fun _ h => List.mem_cons_of_mem _ (List.mem_append_right _ h)
  unfold fX11_lies at h
  suffices key : ∀ (H : Heap) (locs : List Loc), va_P D vwCl (flat [WX11 cy h0 a0 s0]) H → va_S A s.heap H locs → W p l e rmX11_lies s m args below meth c H locs 0 0 QQ (F0 m 0 ls []) from key _ _ hP va_S.rf
  clear hP
  intro H locs hP hS
  refine lv_iload_n hx hb dX11_lies_0 rfl (lv_at hl 1 rfl) ?_
  refine lv_if_lt (tgt := 9) hx hb dX11_lies_1 (by decide) (fun c1 => ?_) (fun c1 => ?_)
  · replace h := (if_pos c1).symm.trans h
    refine lv_aload_n hx hb dX11_lies_9 rfl (lv_at hl 0 rfl) ?_
    refine lv_iconst (v := 1) hx hb dX11_lies_10 (by decide) ?_
    obtain ⟨r2, hr2, h⟩ := lt_elim h
    refine ca_i (w' := [WX11 cy h0 a0 r2.2]) (rn_V (As := [.int (1 : Int32)]) (rest := []) ⟨hx, hb, hml, hown, hts⟩ (kX11_refuse l D cy h0 a0 s0 (1 : Int32) r2 hr2.symm H.size) (cwV 1 hts gX11_lies_X11_refuse rfl rfl rfl (by decide +kernel) ⟨Nat.le_of_ble_eq_true rfl, Nat.le_of_ble_eq_true rfl⟩) hK hN hP hD [0] rfl rfl (ci := 11) (q0 := 0) rfl rfl rfl rfl hl.1 rfl (Nat.le_of_ble_eq_true rfl) dX11_lies_11 ⟨Nat.le_refl 0, Nat.le_refl 0⟩) hP hD hS hA [0] ⟨rfl, rfl, rfl, rfl⟩ (fun H locs hP hD hS => ?_)
    exact hret 14 H locs ls (r2.1, r2.2) (Option.some.inj h) hP hD hS dX11_lies_14
  · replace h := (if_neg c1).symm.trans h
    refine lv_iload_n hx hb dX11_lies_4 rfl (lv_at hl 1 rfl) ?_
    refine lv_iconst (v := 1) hx hb dX11_lies_5 (by decide) ?_
    refine lv_icmp_le (tgt := 15) hx hb dX11_lies_6 (by decide) (fun c3 => ?_) (fun c3 => ?_)
    · replace h := (if_pos c3).symm.trans h
      refine lv_aload_n hx hb dX11_lies_15 rfl (lv_at hl 0 rfl) ?_
      obtain ⟨r4, hr4, h⟩ := bd_elim h
      refine ca_i (w' := [WX11 cy h0 a0 s0]) (rn_V (As := []) (rest := []) ⟨hx, hb, hml, hown, hts⟩ (kX11_keptOf l D cy h0 a0 s0 r4 hr4 H.size) (cwV 0 hts gX11_lies_X11_keptOf rfl rfl rfl (by decide +kernel) ⟨Nat.le_of_ble_eq_true rfl, Nat.le_of_ble_eq_true rfl⟩) hK hN hP hD [0] rfl rfl (ci := 11) (q0 := 0) rfl rfl rfl rfl hl.1 rfl (Nat.le_of_ble_eq_true rfl) dX11_lies_16 ⟨Nat.le_refl 0, Nat.le_refl 0⟩) hP hD hS hA [0] ⟨rfl, rfl, rfl, rfl⟩ (fun H locs hP hD hS => ?_)
      refine lv_istore_n (lv' := [(2, .int r4), (0, .ref h0), (1, .int p1)]) hx hb dX11_lies_19 rfl hl (by decide) rfl (fun ls hl => ?_)
      refine lv_iconst (v := 0) hx hb dX11_lies_20 (by decide) ?_
      refine lv_istore_n (lv' := [(3, .int (0 : Int32)), (2, .int r4), (0, .ref h0), (1, .int p1)]) hx hb dX11_lies_21 rfl hl (by decide) rfl (fun ls hl => ?_)
      refine lv_iconst (v := 0) hx hb dX11_lies_22 (by decide) ?_
      refine lv_istore (lv' := [(4, .int (0 : Int32)), (3, .int (0 : Int32)), (2, .int r4), (0, .ref h0), (1, .int p1)]) hx hb dX11_lies_23 hl (by decide) rfl (fun ls hl => ?_)
      have L25 : ∀ (n : Nat) (q25 : Int32 × Int32 × Rc) (o : Int32 × Rc), loopO (fX11_lies_L25 p1 r4) n q25 = some o → ∀ (H : Heap) (locs : List Loc) (ls : Array Slot), lv_has ls 7 [(2, .int r4), (0, .ref h0), (1, .int p1), (3, .int q25.1), (4, .int q25.2.1)] → va_P D vwCl (flat [WX11 cy h0 a0 q25.2.2]) H → va_D A (flat [WX11 cy h0 a0 q25.2.2]) → va_S A s.heap H locs → ∀ (kk115 : ∀ (H : Heap) (locs : List Loc) (ls : Array Slot), lv_has ls 7 [(0, .ref h0), (3, .int o.1)] → va_P D vwCl (flat [WX11 cy h0 a0 o.2]) H → va_D A (flat [WX11 cy h0 a0 o.2]) → va_S A s.heap H locs → W p l e rmX11_lies s m args below meth c H locs 0 0 QQ (F0 m 115 ls [])), W p l e rmX11_lies s m args below meth c H locs 0 0 QQ (F0 m 25 ls []) := by
        intro n
        induction n with
        | zero => intro q25 o h; exact absurd h (by rw [loopO_zero]; intro z; cases z)
        | succ n ih =>
          intro q25 o h H locs ls hl hP hD hS kk115
          obtain ⟨w, h, hgo, hst⟩ := loopO_elim h
          unfold fX11_lies_L25 at h
          refine lv_iload hx hb dX11_lies_25 (lv_at hl 4 rfl) ?_
          refine lv_aload_n hx hb dX11_lies_27 rfl (lv_at hl 1 rfl) ?_
          refine va_get (D := D) (ci := 11) (v := .ref (a0 0)) (C := RX11) (T := TX11) (N := 38) hx hb hts hinX11 hown hK hP 0 rfl rfl 0 (by decide) (hts (.fieldLink RX11 7 "KneeBenchModel" "at" "[I") (List.mem_of_getElem? (i := 1) rfl)) (fun _ h9 => h9) rfl dX11_lies_28 ?_
          refine lv_iconst (v := 0) hx hb dX11_lies_31 (by decide) ?_
          refine va_iald hx hb hK hP 1 1 rfl rfl (inb_in (by decide)) dX11_lies_32 ?_
          refine lv_icmp_ge (tgt := 115) hx hb dX11_lies_33 (by decide) (fun c5 => ?_) (fun c5 => ?_)
          · replace h := (if_pos c5).symm.trans h
            have eo := hst _ (Option.some.inj h).symm
            subst eo
            exact kk115 H locs ls (lv_sub hl [1, 3] rfl) hP hD hS
          · replace h := (if_neg c5).symm.trans h
            refine lv_iconst (v := 0) hx hb dX11_lies_36 (by decide) ?_
            refine lv_istore (lv' := [(5, .int (0 : Int32)), (2, .int r4), (0, .ref h0), (1, .int p1), (3, .int q25.1), (4, .int q25.2.1)]) hx hb dX11_lies_37 hl (by decide) rfl (fun ls hl => ?_)
            have L39 : ∀ (n : Nat) (q39 : Int32 × Int32 × Rc) (o : Int32 × Rc), loopO (fX11_lies_L39 p1 r4 q25) n q39 = some o → ∀ (H : Heap) (locs : List Loc) (ls : Array Slot), lv_has ls 7 [(2, .int r4), (0, .ref h0), (1, .int p1), (4, .int q25.2.1), (3, .int q39.1), (5, .int q39.2.1)] → va_P D vwCl (flat [WX11 cy h0 a0 q39.2.2]) H → va_D A (flat [WX11 cy h0 a0 q39.2.2]) → va_S A s.heap H locs → ∀ (kk109 : ∀ (H : Heap) (locs : List Loc) (ls : Array Slot), lv_has ls 7 [(2, .int r4), (0, .ref h0), (1, .int p1), (4, .int q25.2.1), (3, .int o.1)] → va_P D vwCl (flat [WX11 cy h0 a0 o.2]) H → va_D A (flat [WX11 cy h0 a0 o.2]) → va_S A s.heap H locs → W p l e rmX11_lies s m args below meth c H locs 0 0 QQ (F0 m 109 ls [])), W p l e rmX11_lies s m args below meth c H locs 0 0 QQ (F0 m 39 ls []) := by
              intro n
              induction n with
              | zero => intro q39 o h; exact absurd h (by rw [loopO_zero]; intro z; cases z)
              | succ n ih =>
                intro q39 o h H locs ls hl hP hD hS kk109
                obtain ⟨w, h, hgo, hst⟩ := loopO_elim h
                unfold fX11_lies_L39 at h
                have J85 : ∀ (y85_6 : Int32) (z85_0 : Int32) (t85_0 : Rc) (H : Heap) (locs : List Loc) (ls : Array Slot), lv_has ls 7 [(2, .int r4), (0, .ref h0), (1, .int p1), (4, .int q25.2.1), (5, .int q39.2.1), (6, .int y85_6)] → va_P D vwCl (flat [WX11 cy h0 a0 t85_0]) H → va_D A (flat [WX11 cy h0 a0 t85_0]) → va_S A s.heap H locs → fX11_lies_J85 p1 r4 q39 y85_6 z85_0 t85_0 = some w → W p l e rmX11_lies s m args below meth c H locs 0 0 QQ (F0 m 85 ls [.int z85_0]) := by
                  intro y85_6 z85_0 t85_0 H locs ls hl hP hD hS h
                  unfold fX11_lies_J85 at h
                  refine lv_iload_n hx hb dX11_lies_85 rfl (lv_at hl 2 rfl) ?_
                  refine lv_iconst (v := 1) hx hb dX11_lies_86 (by decide) ?_
                  refine lv_icmp_ne (tgt := 100) hx hb dX11_lies_87 (by decide) (fun c6 => ?_) (fun c6 => ?_)
                  · replace h := (if_neg c6).symm.trans h
                    refine lv_iconst (v := 0) hx hb dX11_lies_100 (by decide) ?_
                    refine lv_iadd hx hb dX11_lies_101 ?_
                    refine lv_topi (fun x7 ex7 => ?_)
                    replace h := lt_use h x7 ex7
                    refine lv_istore_n (lv' := [(3, .int x7), (2, .int r4), (0, .ref h0), (1, .int p1), (4, .int q25.2.1), (5, .int q39.2.1), (6, .int y85_6)]) hx hb dX11_lies_102 rfl hl (by decide) rfl (fun ls hl => ?_)
                    refine lv_iinc (v := (q39.2.1 + (1 : Int32))) (lv' := [(5, .int (q39.2.1 + (1 : Int32))), (3, .int x7), (2, .int r4), (0, .ref h0), (1, .int p1), (4, .int q25.2.1), (6, .int y85_6)]) hx hb dX11_lies_103 hl (k := 5) rfl rfl (by decide) rfl (fun ls hl => ?_)
                    refine lv_goto (tgt := 39) hx hb dX11_lies_106 (by decide) ?_
                    exact ih _ o (hgo _ (Option.some.inj h).symm) H locs ls (lv_sub hl [2, 3, 4, 5, 1, 0] rfl) hP hD hS kk109
                  · replace h := (if_pos c6).symm.trans h
                    refine lv_iload hx hb dX11_lies_90 (lv_at hl 5 rfl) ?_
                    refine lv_iload_n hx hb dX11_lies_92 rfl (lv_at hl 0 rfl) ?_
                    refine lv_icmp_le (tgt := 100) hx hb dX11_lies_93 (by decide) (fun c8 => ?_) (fun c8 => ?_)
                    · replace h := (if_pos c8).symm.trans h
                      refine lv_iconst (v := 0) hx hb dX11_lies_100 (by decide) ?_
                      refine lv_iadd hx hb dX11_lies_101 ?_
                      refine lv_topi (fun x9 ex9 => ?_)
                      replace h := lt_use h x9 ex9
                      refine lv_istore_n (lv' := [(3, .int x9), (2, .int r4), (0, .ref h0), (1, .int p1), (4, .int q25.2.1), (5, .int q39.2.1), (6, .int y85_6)]) hx hb dX11_lies_102 rfl hl (by decide) rfl (fun ls hl => ?_)
                      refine lv_iinc (v := (q39.2.1 + (1 : Int32))) (lv' := [(5, .int (q39.2.1 + (1 : Int32))), (3, .int x9), (2, .int r4), (0, .ref h0), (1, .int p1), (4, .int q25.2.1), (6, .int y85_6)]) hx hb dX11_lies_103 hl (k := 5) rfl rfl (by decide) rfl (fun ls hl => ?_)
                      refine lv_goto (tgt := 39) hx hb dX11_lies_106 (by decide) ?_
                      exact ih _ o (hgo _ (Option.some.inj h).symm) H locs ls (lv_sub hl [2, 3, 4, 5, 1, 0] rfl) hP hD hS kk109
                    · replace h := (if_neg c8).symm.trans h
                      refine lv_iconst (v := 1) hx hb dX11_lies_96 (by decide) ?_
                      refine lv_goto (tgt := 101) hx hb dX11_lies_97 (by decide) ?_
                      refine lv_iadd hx hb dX11_lies_101 ?_
                      refine lv_topi (fun x10 ex10 => ?_)
                      replace h := lt_use h x10 ex10
                      refine lv_istore_n (lv' := [(3, .int x10), (2, .int r4), (0, .ref h0), (1, .int p1), (4, .int q25.2.1), (5, .int q39.2.1), (6, .int y85_6)]) hx hb dX11_lies_102 rfl hl (by decide) rfl (fun ls hl => ?_)
                      refine lv_iinc (v := (q39.2.1 + (1 : Int32))) (lv' := [(5, .int (q39.2.1 + (1 : Int32))), (3, .int x10), (2, .int r4), (0, .ref h0), (1, .int p1), (4, .int q25.2.1), (6, .int y85_6)]) hx hb dX11_lies_103 hl (k := 5) rfl rfl (by decide) rfl (fun ls hl => ?_)
                      refine lv_goto (tgt := 39) hx hb dX11_lies_106 (by decide) ?_
                      exact ih _ o (hgo _ (Option.some.inj h).symm) H locs ls (lv_sub hl [2, 3, 4, 5, 1, 0] rfl) hP hD hS kk109
                refine lv_iload hx hb dX11_lies_39 (lv_at hl 5 rfl) ?_
                refine lv_aload_n hx hb dX11_lies_41 rfl (lv_at hl 1 rfl) ?_
                refine va_get (D := D) (ci := 11) (v := .ref (a0 0)) (C := RX11) (T := TX11) (N := 38) hx hb hts hinX11 hown hK hP 0 rfl rfl 0 (by decide) (hts (.fieldLink RX11 7 "KneeBenchModel" "at" "[I") (List.mem_of_getElem? (i := 1) rfl)) (fun _ h9 => h9) rfl dX11_lies_42 ?_
                refine lv_iconst (v := 1) hx hb dX11_lies_45 (by decide) ?_
                refine va_iald hx hb hK hP 1 1 rfl rfl (inb_in (by decide)) dX11_lies_46 ?_
                refine lv_icmp_ge (tgt := 109) hx hb dX11_lies_47 (by decide) (fun c11 => ?_) (fun c11 => ?_)
                · replace h := (if_pos c11).symm.trans h
                  have eo := hst _ (Option.some.inj h).symm
                  subst eo
                  exact kk109 H locs ls (lv_sub hl [0, 1, 2, 3, 4] rfl) hP hD hS
                · replace h := (if_neg c11).symm.trans h
                  refine lv_aload_n hx hb dX11_lies_50 rfl (lv_at hl 1 rfl) ?_
                  refine lv_iload hx hb dX11_lies_51 (lv_at hl 3 rfl) ?_
                  refine lv_iload hx hb dX11_lies_53 (lv_at hl 5 rfl) ?_
                  obtain ⟨r12, hr12, h⟩ := bd_elim h
                  refine ca_i (w' := [WX11 cy h0 a0 r12.2]) (rn_V (As := [.int q25.2.1, .int q39.2.1]) (rest := []) ⟨hx, hb, hml, hown, hts⟩ (kX11_turnsRound l D cy h0 a0 q39.2.2 q25.2.1 q39.2.1 r12 hr12 H.size) (cwV 2 hts gX11_lies_X11_turnsRound rfl rfl rfl (by decide +kernel) ⟨Nat.le_of_ble_eq_true rfl, Nat.le_of_ble_eq_true rfl⟩) hK hN hP hD [0] rfl rfl (ci := 11) (q0 := 0) rfl rfl rfl rfl hl.1 rfl (Nat.le_of_ble_eq_true rfl) dX11_lies_55 ⟨Nat.le_refl 0, Nat.le_refl 0⟩) hP hD hS hA [0] ⟨rfl, rfl, rfl, rfl⟩ (fun H locs hP hD hS => ?_)
                  refine lv_pop hx hb dX11_lies_58 rfl ?_
                  refine lv_aload_n hx hb dX11_lies_59 rfl (lv_at hl 1 rfl) ?_
                  obtain ⟨r13, hr13, h⟩ := bd_elim h
                  refine ca_i (w' := [WX11 cy h0 a0 r12.2]) (rn_V (As := []) (rest := []) ⟨hx, hb, hml, hown, hts⟩ (kX11_keptOf l D cy h0 a0 r12.2 r13 hr13 H.size) (cwV 0 hts gX11_lies_X11_keptOf rfl rfl rfl (by decide +kernel) ⟨Nat.le_of_ble_eq_true rfl, Nat.le_of_ble_eq_true rfl⟩) hK hN hP hD [0] rfl rfl (ci := 11) (q0 := 0) rfl rfl rfl rfl hl.1 rfl (Nat.le_of_ble_eq_true rfl) dX11_lies_60 ⟨Nat.le_refl 0, Nat.le_refl 0⟩) hP hD hS hA [0] ⟨rfl, rfl, rfl, rfl⟩ (fun H locs hP hD hS => ?_)
                  refine lv_istore (lv' := [(6, .int r13), (2, .int r4), (0, .ref h0), (1, .int p1), (4, .int q25.2.1), (3, .int q39.1), (5, .int q39.2.1)]) hx hb dX11_lies_63 hl (by decide) rfl (fun ls hl => ?_)
                  refine lv_aload_n hx hb dX11_lies_65 rfl (lv_at hl 2 rfl) ?_
                  refine lv_iload hx hb dX11_lies_66 (lv_at hl 4 rfl) ?_
                  refine lv_iload hx hb dX11_lies_68 (lv_at hl 6 rfl) ?_
                  obtain ⟨r14, hr14, h⟩ := bd_elim h
                  refine ca_i (w' := [WX11 cy h0 a0 r14.2]) (rn_V (As := [.int q25.2.1, .int q39.2.1]) (rest := []) ⟨hx, hb, hml, hown, hts⟩ (kX11_turnsRound l D cy h0 a0 r12.2 q25.2.1 q39.2.1 r14 hr14 H.size) (cwV 2 hts gX11_lies_X11_turnsRound rfl rfl rfl (by decide +kernel) ⟨Nat.le_of_ble_eq_true rfl, Nat.le_of_ble_eq_true rfl⟩) hK hN hP hD [0] rfl rfl (ci := 11) (q0 := 0) rfl rfl rfl rfl hl.1 rfl (Nat.le_of_ble_eq_true rfl) dX11_lies_70 ⟨Nat.le_refl 0, Nat.le_refl 0⟩) hP hD hS hA [0] ⟨rfl, rfl, rfl, rfl⟩ (fun H locs hP hD hS => ?_)
                  refine lv_pop hx hb dX11_lies_73 rfl ?_
                  refine lv_iload_n hx hb dX11_lies_74 rfl (lv_at hl 5 rfl) ?_
                  refine lv_iload_n hx hb dX11_lies_75 rfl (lv_at hl 3 rfl) ?_
                  refine lv_if_ne (tgt := 85) hx hb dX11_lies_76 (by decide) (fun c15 => ?_) (fun c15 => ?_)
                  · replace h := (if_neg c15).symm.trans h
                    exact J85 r13 q39.1 r14.2 H locs ls (lv_sub hl [1, 2, 3, 4, 6, 0] rfl) hP hD hS h
                  · replace h := (if_pos c15).symm.trans h
                    refine lv_iload hx hb dX11_lies_79 (lv_at hl 0 rfl) ?_
                    refine lv_iload_n hx hb dX11_lies_81 rfl (lv_at hl 1 rfl) ?_
                    refine lv_icmp_lt (tgt := 96) hx hb dX11_lies_82 (by decide) (fun c16 => ?_) (fun c16 => ?_)
                    · replace h := (if_pos c16).symm.trans h
                      refine lv_iconst (v := 1) hx hb dX11_lies_96 (by decide) ?_
                      refine lv_goto (tgt := 101) hx hb dX11_lies_97 (by decide) ?_
                      refine lv_iadd hx hb dX11_lies_101 ?_
                      refine lv_topi (fun x17 ex17 => ?_)
                      replace h := lt_use h x17 ex17
                      refine lv_istore_n (lv' := [(3, .int x17), (6, .int r13), (2, .int r4), (0, .ref h0), (1, .int p1), (4, .int q25.2.1), (5, .int q39.2.1)]) hx hb dX11_lies_102 rfl hl (by decide) rfl (fun ls hl => ?_)
                      refine lv_iinc (v := (q39.2.1 + (1 : Int32))) (lv' := [(5, .int (q39.2.1 + (1 : Int32))), (3, .int x17), (6, .int r13), (2, .int r4), (0, .ref h0), (1, .int p1), (4, .int q25.2.1)]) hx hb dX11_lies_103 hl (k := 6) rfl rfl (by decide) rfl (fun ls hl => ?_)
                      refine lv_goto (tgt := 39) hx hb dX11_lies_106 (by decide) ?_
                      exact ih _ o (hgo _ (Option.some.inj h).symm) H locs ls (lv_sub hl [3, 4, 5, 6, 1, 0] rfl) hP hD hS kk109
                    · replace h := (if_neg c16).symm.trans h
                      exact J85 r13 q39.1 r14.2 H locs ls (lv_sub hl [1, 2, 3, 4, 6, 0] rfl) hP hD hS h
            obtain ⟨o39, ho39, h⟩ := bd_elim h
            obtain ⟨n39, hn39⟩ := loopF_some ho39
            refine L39 n39 _ o39 hn39 H locs ls (lv_sub hl [1, 2, 3, 5, 4, 0] rfl) hP hD hS (fun H locs ls hl hP hD hS => ?_)
            refine lv_iinc (v := (q25.2.1 + (1 : Int32))) (lv' := [(4, .int (q25.2.1 + (1 : Int32))), (2, .int r4), (0, .ref h0), (1, .int p1), (3, .int o39.1)]) hx hb dX11_lies_109 hl (k := 3) rfl rfl (by decide) rfl (fun ls hl => ?_)
            refine lv_goto (tgt := 25) hx hb dX11_lies_112 (by decide) ?_
            exact ih _ o (hgo _ (Option.some.inj h).symm) H locs ls (lv_sub hl [1, 2, 3, 4, 0] rfl) hP hD hS kk115
      obtain ⟨o25, ho25, h⟩ := bd_elim h
      obtain ⟨n25, hn25⟩ := loopF_some ho25
      refine L25 n25 _ o25 hn25 H locs ls (lv_sub hl [2, 3, 4, 1, 0] rfl) hP hD hS (fun H locs ls hl hP hD hS => ?_)
      refine lv_aload_n hx hb dX11_lies_115 rfl (lv_at hl 0 rfl) ?_
      refine lv_iload_n hx hb dX11_lies_116 rfl (lv_at hl 1 rfl) ?_
      obtain ⟨r18, hr18, h⟩ := lt_elim h
      refine ca_i (w' := [WX11 cy h0 a0 r18.2]) (rn_V (As := [.int o25.1]) (rest := []) ⟨hx, hb, hml, hown, hts⟩ (kX11_gives l D cy h0 a0 o25.2 o25.1 r18 hr18.symm H.size) (cwV 1 hts gX11_lies_X11_gives rfl rfl rfl (by decide +kernel) ⟨Nat.le_of_ble_eq_true rfl, Nat.le_of_ble_eq_true rfl⟩) hK hN hP hD [0] rfl rfl (ci := 11) (q0 := 0) rfl rfl rfl rfl hl.1 rfl (Nat.le_of_ble_eq_true rfl) dX11_lies_117 ⟨Nat.le_refl 0, Nat.le_refl 0⟩) hP hD hS hA [0] ⟨rfl, rfl, rfl, rfl⟩ (fun H locs hP hD hS => ?_)
      exact hret 120 H locs ls (r18.1, r18.2) (Option.some.inj h) hP hD hS dX11_lies_120
    · replace h := (if_neg c3).symm.trans h
      refine lv_aload_n hx hb dX11_lies_9 rfl (lv_at hl 0 rfl) ?_
      refine lv_iconst (v := 1) hx hb dX11_lies_10 (by decide) ?_
      obtain ⟨r19, hr19, h⟩ := lt_elim h
      refine ca_i (w' := [WX11 cy h0 a0 r19.2]) (rn_V (As := [.int (1 : Int32)]) (rest := []) ⟨hx, hb, hml, hown, hts⟩ (kX11_refuse l D cy h0 a0 s0 (1 : Int32) r19 hr19.symm H.size) (cwV 1 hts gX11_lies_X11_refuse rfl rfl rfl (by decide +kernel) ⟨Nat.le_of_ble_eq_true rfl, Nat.le_of_ble_eq_true rfl⟩) hK hN hP hD [0] rfl rfl (ci := 11) (q0 := 0) rfl rfl rfl rfl hl.1 rfl (Nat.le_of_ble_eq_true rfl) dX11_lies_11 ⟨Nat.le_refl 0, Nat.le_refl 0⟩) hP hD hS hA [0] ⟨rfl, rfl, rfl, rfl⟩ (fun H locs hP hD hS => ?_)
      exact hret 14 H locs ls (r19.1, r19.2) (Option.some.inj h) hP hD hS dX11_lies_14
theorem gd_X11_lives : wsX11_lives.all goodWord = true := by decide +kernel
set_option maxRecDepth 20000 in
theorem ggX11_lives_X11_does : GoodIn wsX11_lives wsX11_does := goodIn_by gd_X11_lives (List.forall_mem_cons.mpr ⟨List.mem_cons_of_mem _ (List.mem_append_left _ (List.mem_append_left _ (List.mem_of_getElem? (i := 9) rfl))), List.forall_mem_append.mpr ⟨List.forall_mem_append.mpr ⟨List.forall_mem_cons.mpr ⟨List.mem_cons_of_mem _ (List.mem_append_left _ (List.mem_append_left _ (List.mem_of_getElem? (i := 3) rfl))), List.forall_mem_cons.mpr ⟨List.mem_cons_of_mem _ (List.mem_append_left _ (List.mem_append_left _ (List.mem_of_getElem? (i := 10) rfl))), List.forall_mem_cons.mpr ⟨List.mem_cons_of_mem _ (List.mem_append_left _ (List.mem_append_left _ (List.mem_of_getElem? (i := 11) rfl))), List.forall_mem_cons.mpr ⟨List.mem_cons_of_mem _ (List.mem_append_left _ (List.mem_append_left _ (List.mem_of_getElem? (i := 12) rfl))), List.forall_mem_cons.mpr ⟨List.mem_cons_of_mem _ (List.mem_append_left _ (List.mem_append_left _ (List.mem_of_getElem? (i := 8) rfl))), List.forall_mem_cons.mpr ⟨List.mem_cons_of_mem _ (List.mem_append_left _ (List.mem_append_left _ (List.mem_of_getElem? (i := 13) rfl))), List.forall_mem_cons.mpr ⟨List.mem_cons_of_mem _ (List.mem_append_left _ (List.mem_append_left _ (List.mem_of_getElem? (i := 0) rfl))), List.forall_mem_cons.mpr ⟨List.mem_cons_of_mem _ (List.mem_append_left _ (List.mem_append_left _ (List.mem_of_getElem? (i := 14) rfl))), List.forall_mem_cons.mpr ⟨List.mem_cons_of_mem _ (List.mem_append_left _ (List.mem_append_left _ (List.mem_of_getElem? (i := 15) rfl))), List.forall_mem_cons.mpr ⟨List.mem_cons_of_mem _ (List.mem_append_left _ (List.mem_append_left _ (List.mem_of_getElem? (i := 16) rfl))), List.forall_mem_cons.mpr ⟨List.mem_cons_of_mem _ (List.mem_append_left _ (List.mem_append_left _ (List.mem_of_getElem? (i := 17) rfl))), List.forall_mem_cons.mpr ⟨List.mem_cons_of_mem _ (List.mem_append_left _ (List.mem_append_left _ (List.mem_of_getElem? (i := 18) rfl))), List.forall_mem_cons.mpr ⟨List.mem_cons_of_mem _ (List.mem_append_left _ (List.mem_append_left _ (List.mem_of_getElem? (i := 2) rfl))), List.forall_mem_cons.mpr ⟨List.mem_cons_of_mem _ (List.mem_append_left _ (List.mem_append_left _ (List.mem_of_getElem? (i := 19) rfl))), List.forall_mem_cons.mpr ⟨List.mem_cons_of_mem _ (List.mem_append_left _ (List.mem_append_left _ (List.mem_of_getElem? (i := 20) rfl))), List.forall_mem_cons.mpr ⟨List.mem_cons_of_mem _ (List.mem_append_left _ (List.mem_append_left _ (List.mem_of_getElem? (i := 21) rfl))), List.forall_mem_cons.mpr ⟨List.mem_cons_of_mem _ (List.mem_append_left _ (List.mem_append_left _ (List.mem_of_getElem? (i := 22) rfl))), List.forall_mem_cons.mpr ⟨List.mem_cons_of_mem _ (List.mem_append_left _ (List.mem_append_left _ (List.mem_of_getElem? (i := 23) rfl))), List.forall_mem_cons.mpr ⟨List.mem_cons_of_mem _ (List.mem_append_left _ (List.mem_append_right _ (List.mem_append_left _ (List.mem_of_getElem? (i := 0) rfl)))), List.forall_mem_cons.mpr ⟨List.mem_cons_of_mem _ (List.mem_append_left _ (List.mem_append_right _ (List.mem_append_left _ (List.mem_of_getElem? (i := 1) rfl)))), List.forall_mem_cons.mpr ⟨List.mem_cons_of_mem _ (List.mem_append_left _ (List.mem_append_right _ (List.mem_append_left _ (List.mem_of_getElem? (i := 2) rfl)))), List.forall_mem_cons.mpr ⟨List.mem_cons_of_mem _ (List.mem_append_left _ (List.mem_append_right _ (List.mem_append_left _ (List.mem_of_getElem? (i := 3) rfl)))), List.forall_mem_cons.mpr ⟨List.mem_cons_of_mem _ (List.mem_append_left _ (List.mem_append_right _ (List.mem_append_left _ (List.mem_of_getElem? (i := 4) rfl)))), List.forall_mem_cons.mpr ⟨List.mem_cons_of_mem _ (List.mem_append_left _ (List.mem_append_right _ (List.mem_append_left _ (List.mem_of_getElem? (i := 5) rfl)))), nowords_in⟩⟩⟩⟩⟩⟩⟩⟩⟩⟩⟩⟩⟩⟩⟩⟩⟩⟩⟩⟩⟩⟩⟩⟩, List.forall_mem_append.mpr ⟨List.forall_mem_cons.mpr ⟨List.mem_cons_of_mem _ (List.mem_append_left _ (List.mem_append_right _ (List.mem_append_left _ (List.mem_of_getElem? (i := 6) rfl)))), List.forall_mem_cons.mpr ⟨List.mem_cons_of_mem _ (List.mem_append_left _ (List.mem_append_right _ (List.mem_append_left _ (List.mem_of_getElem? (i := 7) rfl)))), List.forall_mem_cons.mpr ⟨List.mem_cons_of_mem _ (List.mem_append_left _ (List.mem_append_right _ (List.mem_append_left _ (List.mem_of_getElem? (i := 8) rfl)))), List.forall_mem_cons.mpr ⟨List.mem_cons_of_mem _ (List.mem_append_left _ (List.mem_append_right _ (List.mem_append_left _ (List.mem_of_getElem? (i := 9) rfl)))), List.forall_mem_cons.mpr ⟨List.mem_cons_of_mem _ (List.mem_append_left _ (List.mem_append_right _ (List.mem_append_left _ (List.mem_of_getElem? (i := 10) rfl)))), List.forall_mem_cons.mpr ⟨List.mem_cons_of_mem _ (List.mem_append_left _ (List.mem_append_right _ (List.mem_append_left _ (List.mem_of_getElem? (i := 11) rfl)))), List.forall_mem_cons.mpr ⟨List.mem_cons_of_mem _ (List.mem_append_left _ (List.mem_append_right _ (List.mem_append_left _ (List.mem_of_getElem? (i := 12) rfl)))), List.forall_mem_cons.mpr ⟨List.mem_cons_of_mem _ (List.mem_append_left _ (List.mem_append_right _ (List.mem_append_left _ (List.mem_of_getElem? (i := 13) rfl)))), List.forall_mem_cons.mpr ⟨List.mem_cons_of_mem _ (List.mem_append_left _ (List.mem_append_right _ (List.mem_append_left _ (List.mem_of_getElem? (i := 14) rfl)))), List.forall_mem_cons.mpr ⟨List.mem_cons_of_mem _ (List.mem_append_left _ (List.mem_append_right _ (List.mem_append_left _ (List.mem_of_getElem? (i := 15) rfl)))), List.forall_mem_cons.mpr ⟨List.mem_cons_of_mem _ (List.mem_append_left _ (List.mem_append_right _ (List.mem_append_left _ (List.mem_of_getElem? (i := 16) rfl)))), List.forall_mem_cons.mpr ⟨List.mem_cons_of_mem _ (List.mem_append_left _ (List.mem_append_right _ (List.mem_append_left _ (List.mem_of_getElem? (i := 17) rfl)))), List.forall_mem_cons.mpr ⟨List.mem_cons_of_mem _ (List.mem_append_left _ (List.mem_append_right _ (List.mem_append_left _ (List.mem_of_getElem? (i := 18) rfl)))), List.forall_mem_cons.mpr ⟨List.mem_cons_of_mem _ (List.mem_append_left _ (List.mem_append_right _ (List.mem_append_left _ (List.mem_of_getElem? (i := 19) rfl)))), List.forall_mem_cons.mpr ⟨List.mem_cons_of_mem _ (List.mem_append_left _ (List.mem_append_right _ (List.mem_append_left _ (List.mem_of_getElem? (i := 20) rfl)))), List.forall_mem_cons.mpr ⟨List.mem_cons_of_mem _ (List.mem_append_left _ (List.mem_append_right _ (List.mem_append_left _ (List.mem_of_getElem? (i := 21) rfl)))), List.forall_mem_cons.mpr ⟨List.mem_cons_of_mem _ (List.mem_append_left _ (List.mem_append_right _ (List.mem_append_left _ (List.mem_of_getElem? (i := 22) rfl)))), List.forall_mem_cons.mpr ⟨List.mem_cons_of_mem _ (List.mem_append_left _ (List.mem_append_right _ (List.mem_append_left _ (List.mem_of_getElem? (i := 23) rfl)))), List.forall_mem_cons.mpr ⟨List.mem_cons_of_mem _ (List.mem_append_left _ (List.mem_append_right _ (List.mem_append_right _ (List.mem_append_left _ (List.mem_of_getElem? (i := 0) rfl))))), List.forall_mem_cons.mpr ⟨List.mem_cons_of_mem _ (List.mem_append_left _ (List.mem_append_right _ (List.mem_append_right _ (List.mem_append_left _ (List.mem_of_getElem? (i := 1) rfl))))), List.forall_mem_cons.mpr ⟨List.mem_cons_of_mem _ (List.mem_append_left _ (List.mem_append_right _ (List.mem_append_right _ (List.mem_append_left _ (List.mem_of_getElem? (i := 2) rfl))))), List.forall_mem_cons.mpr ⟨List.mem_cons_of_mem _ (List.mem_append_left _ (List.mem_append_right _ (List.mem_append_right _ (List.mem_append_left _ (List.mem_of_getElem? (i := 3) rfl))))), List.forall_mem_cons.mpr ⟨List.mem_cons_of_mem _ (List.mem_append_left _ (List.mem_append_right _ (List.mem_append_right _ (List.mem_append_left _ (List.mem_of_getElem? (i := 4) rfl))))), List.forall_mem_cons.mpr ⟨List.mem_cons_of_mem _ (List.mem_append_left _ (List.mem_append_right _ (List.mem_append_right _ (List.mem_append_left _ (List.mem_of_getElem? (i := 5) rfl))))), nowords_in⟩⟩⟩⟩⟩⟩⟩⟩⟩⟩⟩⟩⟩⟩⟩⟩⟩⟩⟩⟩⟩⟩⟩⟩, List.forall_mem_cons.mpr ⟨List.mem_cons_of_mem _ (List.mem_append_left _ (List.mem_append_right _ (List.mem_append_right _ (List.mem_append_left _ (List.mem_of_getElem? (i := 6) rfl))))), List.forall_mem_cons.mpr ⟨List.mem_cons_of_mem _ (List.mem_append_left _ (List.mem_append_right _ (List.mem_append_right _ (List.mem_append_left _ (List.mem_of_getElem? (i := 7) rfl))))), List.forall_mem_cons.mpr ⟨List.mem_cons_of_mem _ (List.mem_append_left _ (List.mem_append_right _ (List.mem_append_right _ (List.mem_append_left _ (List.mem_of_getElem? (i := 8) rfl))))), List.forall_mem_cons.mpr ⟨List.mem_cons_of_mem _ (List.mem_append_left _ (List.mem_append_right _ (List.mem_append_right _ (List.mem_append_left _ (List.mem_of_getElem? (i := 9) rfl))))), List.forall_mem_cons.mpr ⟨List.mem_cons_of_mem _ (List.mem_append_left _ (List.mem_append_right _ (List.mem_append_right _ (List.mem_append_left _ (List.mem_of_getElem? (i := 10) rfl))))), List.forall_mem_cons.mpr ⟨List.mem_cons_of_mem _ (List.mem_append_left _ (List.mem_append_right _ (List.mem_append_right _ (List.mem_append_left _ (List.mem_of_getElem? (i := 11) rfl))))), List.forall_mem_cons.mpr ⟨List.mem_cons_of_mem _ (List.mem_append_left _ (List.mem_append_right _ (List.mem_append_right _ (List.mem_append_left _ (List.mem_of_getElem? (i := 12) rfl))))), List.forall_mem_cons.mpr ⟨List.mem_cons_of_mem _ (List.mem_append_left _ (List.mem_append_right _ (List.mem_append_right _ (List.mem_append_left _ (List.mem_of_getElem? (i := 13) rfl))))), List.forall_mem_cons.mpr ⟨List.mem_cons_of_mem _ (List.mem_append_left _ (List.mem_append_right _ (List.mem_append_right _ (List.mem_append_left _ (List.mem_of_getElem? (i := 14) rfl))))), List.forall_mem_cons.mpr ⟨List.mem_cons_of_mem _ (List.mem_append_left _ (List.mem_append_right _ (List.mem_append_right _ (List.mem_append_left _ (List.mem_of_getElem? (i := 15) rfl))))), List.forall_mem_cons.mpr ⟨List.mem_cons_of_mem _ (List.mem_append_left _ (List.mem_append_right _ (List.mem_append_right _ (List.mem_append_left _ (List.mem_of_getElem? (i := 16) rfl))))), List.forall_mem_cons.mpr ⟨List.mem_cons_of_mem _ (List.mem_append_left _ (List.mem_append_right _ (List.mem_append_right _ (List.mem_append_left _ (List.mem_of_getElem? (i := 17) rfl))))), List.forall_mem_cons.mpr ⟨List.mem_cons_of_mem _ (List.mem_append_left _ (List.mem_append_right _ (List.mem_append_right _ (List.mem_append_left _ (List.mem_of_getElem? (i := 18) rfl))))), List.forall_mem_cons.mpr ⟨List.mem_cons_of_mem _ (List.mem_append_left _ (List.mem_append_right _ (List.mem_append_right _ (List.mem_append_left _ (List.mem_of_getElem? (i := 19) rfl))))), List.forall_mem_cons.mpr ⟨List.mem_cons_of_mem _ (List.mem_append_left _ (List.mem_append_right _ (List.mem_append_right _ (List.mem_append_left _ (List.mem_of_getElem? (i := 20) rfl))))), List.forall_mem_cons.mpr ⟨List.mem_cons_of_mem _ (List.mem_append_left _ (List.mem_append_right _ (List.mem_append_right _ (List.mem_append_left _ (List.mem_of_getElem? (i := 21) rfl))))), List.forall_mem_cons.mpr ⟨List.mem_cons_of_mem _ (List.mem_append_left _ (List.mem_append_right _ (List.mem_append_right _ (List.mem_append_left _ (List.mem_of_getElem? (i := 22) rfl))))), List.forall_mem_cons.mpr ⟨List.mem_cons_of_mem _ (List.mem_append_left _ (List.mem_append_right _ (List.mem_append_right _ (List.mem_append_left _ (List.mem_of_getElem? (i := 23) rfl))))), List.forall_mem_cons.mpr ⟨List.mem_cons_of_mem _ (List.mem_append_left _ (List.mem_append_right _ (List.mem_append_right _ (List.mem_append_right _ (List.mem_of_getElem? (i := 0) rfl))))), List.forall_mem_cons.mpr ⟨List.mem_cons_of_mem _ (List.mem_append_left _ (List.mem_append_right _ (List.mem_append_right _ (List.mem_append_right _ (List.mem_of_getElem? (i := 1) rfl))))), List.forall_mem_cons.mpr ⟨List.mem_cons_of_mem _ (List.mem_append_left _ (List.mem_append_right _ (List.mem_append_right _ (List.mem_append_right _ (List.mem_of_getElem? (i := 2) rfl))))), nowords_in⟩⟩⟩⟩⟩⟩⟩⟩⟩⟩⟩⟩⟩⟩⟩⟩⟩⟩⟩⟩⟩⟩⟩, (fun _ h => List.mem_cons_of_mem _ (List.mem_append_right _ (h)))⟩⟩)
set_option maxRecDepth 20000 in
theorem gX11_lives_X11_does : GoodIn wsX11_lives (wsV RX11 401 RX11 yX11_does wsX11_does) := goodIn_app (goodIn_by gd_X11_lives (List.forall_mem_cons.mpr ⟨List.mem_cons_of_mem _ (List.mem_append_left _ (List.mem_append_left _ (List.mem_of_getElem? (i := 5) rfl))), List.forall_mem_cons.mpr ⟨List.mem_cons_of_mem _ (List.mem_append_left _ (List.mem_append_left _ (List.mem_of_getElem? (i := 6) rfl))), List.forall_mem_cons.mpr ⟨List.mem_cons_of_mem _ (List.mem_append_left _ (List.mem_append_left _ (List.mem_of_getElem? (i := 7) rfl))), List.forall_mem_cons.mpr ⟨List.mem_cons_of_mem _ (List.mem_append_left _ (List.mem_append_left _ (List.mem_of_getElem? (i := 8) rfl))), nowords_in⟩⟩⟩⟩)) ggX11_lives_X11_does
set_option maxRecDepth 20000 in
theorem ggX11_lives_X11_holds : GoodIn wsX11_lives wsX11_holds := goodIn_by gd_X11_lives (List.forall_mem_cons.mpr ⟨List.mem_cons_of_mem _ (List.mem_append_left _ (List.mem_append_right _ (List.mem_append_right _ (List.mem_append_right _ (List.mem_of_getElem? (i := 6) rfl))))), List.forall_mem_append.mpr ⟨List.forall_mem_append.mpr ⟨List.forall_mem_cons.mpr ⟨List.mem_cons_of_mem _ (List.mem_append_left _ (List.mem_append_left _ (List.mem_of_getElem? (i := 3) rfl))), List.forall_mem_cons.mpr ⟨List.mem_cons_of_mem _ (List.mem_append_left _ (List.mem_append_right _ (List.mem_append_right _ (List.mem_append_right _ (List.mem_of_getElem? (i := 7) rfl))))), List.forall_mem_cons.mpr ⟨List.mem_cons_of_mem _ (List.mem_append_left _ (List.mem_append_right _ (List.mem_append_right _ (List.mem_append_right _ (List.mem_of_getElem? (i := 8) rfl))))), List.forall_mem_cons.mpr ⟨List.mem_cons_of_mem _ (List.mem_append_left _ (List.mem_append_right _ (List.mem_append_right _ (List.mem_append_right _ (List.mem_of_getElem? (i := 9) rfl))))), List.forall_mem_cons.mpr ⟨List.mem_cons_of_mem _ (List.mem_append_left _ (List.mem_append_left _ (List.mem_of_getElem? (i := 8) rfl))), List.forall_mem_cons.mpr ⟨List.mem_cons_of_mem _ (List.mem_append_left _ (List.mem_append_right _ (List.mem_append_right _ (List.mem_append_right _ (List.mem_of_getElem? (i := 10) rfl))))), List.forall_mem_cons.mpr ⟨List.mem_cons_of_mem _ (List.mem_append_left _ (List.mem_append_right _ (List.mem_append_right _ (List.mem_append_left _ (List.mem_of_getElem? (i := 17) rfl))))), List.forall_mem_cons.mpr ⟨List.mem_cons_of_mem _ (List.mem_append_left _ (List.mem_append_right _ (List.mem_append_right _ (List.mem_append_left _ (List.mem_of_getElem? (i := 18) rfl))))), List.forall_mem_cons.mpr ⟨List.mem_cons_of_mem _ (List.mem_append_left _ (List.mem_append_right _ (List.mem_append_right _ (List.mem_append_left _ (List.mem_of_getElem? (i := 19) rfl))))), List.forall_mem_cons.mpr ⟨List.mem_cons_of_mem _ (List.mem_append_left _ (List.mem_append_right _ (List.mem_append_right _ (List.mem_append_left _ (List.mem_of_getElem? (i := 20) rfl))))), List.forall_mem_cons.mpr ⟨List.mem_cons_of_mem _ (List.mem_append_left _ (List.mem_append_right _ (List.mem_append_right _ (List.mem_append_left _ (List.mem_of_getElem? (i := 21) rfl))))), List.forall_mem_cons.mpr ⟨List.mem_cons_of_mem _ (List.mem_append_left _ (List.mem_append_right _ (List.mem_append_right _ (List.mem_append_left _ (List.mem_of_getElem? (i := 22) rfl))))), List.forall_mem_cons.mpr ⟨List.mem_cons_of_mem _ (List.mem_append_left _ (List.mem_append_right _ (List.mem_append_left _ (List.mem_of_getElem? (i := 10) rfl)))), List.forall_mem_cons.mpr ⟨List.mem_cons_of_mem _ (List.mem_append_left _ (List.mem_append_right _ (List.mem_append_left _ (List.mem_of_getElem? (i := 11) rfl)))), List.forall_mem_cons.mpr ⟨List.mem_cons_of_mem _ (List.mem_append_left _ (List.mem_append_right _ (List.mem_append_left _ (List.mem_of_getElem? (i := 12) rfl)))), List.forall_mem_cons.mpr ⟨List.mem_cons_of_mem _ (List.mem_append_left _ (List.mem_append_right _ (List.mem_append_left _ (List.mem_of_getElem? (i := 13) rfl)))), List.forall_mem_cons.mpr ⟨List.mem_cons_of_mem _ (List.mem_append_left _ (List.mem_append_right _ (List.mem_append_left _ (List.mem_of_getElem? (i := 14) rfl)))), List.forall_mem_cons.mpr ⟨List.mem_cons_of_mem _ (List.mem_append_left _ (List.mem_append_right _ (List.mem_append_left _ (List.mem_of_getElem? (i := 15) rfl)))), List.forall_mem_cons.mpr ⟨List.mem_cons_of_mem _ (List.mem_append_left _ (List.mem_append_right _ (List.mem_append_left _ (List.mem_of_getElem? (i := 16) rfl)))), List.forall_mem_cons.mpr ⟨List.mem_cons_of_mem _ (List.mem_append_left _ (List.mem_append_right _ (List.mem_append_left _ (List.mem_of_getElem? (i := 17) rfl)))), List.forall_mem_cons.mpr ⟨List.mem_cons_of_mem _ (List.mem_append_left _ (List.mem_append_right _ (List.mem_append_left _ (List.mem_of_getElem? (i := 18) rfl)))), List.forall_mem_cons.mpr ⟨List.mem_cons_of_mem _ (List.mem_append_left _ (List.mem_append_right _ (List.mem_append_left _ (List.mem_of_getElem? (i := 19) rfl)))), List.forall_mem_cons.mpr ⟨List.mem_cons_of_mem _ (List.mem_append_left _ (List.mem_append_right _ (List.mem_append_left _ (List.mem_of_getElem? (i := 20) rfl)))), List.forall_mem_cons.mpr ⟨List.mem_cons_of_mem _ (List.mem_append_left _ (List.mem_append_right _ (List.mem_append_right _ (List.mem_append_left _ (List.mem_of_getElem? (i := 1) rfl))))), nowords_in⟩⟩⟩⟩⟩⟩⟩⟩⟩⟩⟩⟩⟩⟩⟩⟩⟩⟩⟩⟩⟩⟩⟩⟩, List.forall_mem_cons.mpr ⟨List.mem_cons_of_mem _ (List.mem_append_left _ (List.mem_append_right _ (List.mem_append_right _ (List.mem_append_left _ (List.mem_of_getElem? (i := 2) rfl))))), List.forall_mem_cons.mpr ⟨List.mem_cons_of_mem _ (List.mem_append_left _ (List.mem_append_right _ (List.mem_append_right _ (List.mem_append_left _ (List.mem_of_getElem? (i := 3) rfl))))), List.forall_mem_cons.mpr ⟨List.mem_cons_of_mem _ (List.mem_append_left _ (List.mem_append_right _ (List.mem_append_right _ (List.mem_append_left _ (List.mem_of_getElem? (i := 4) rfl))))), List.forall_mem_cons.mpr ⟨List.mem_cons_of_mem _ (List.mem_append_left _ (List.mem_append_left _ (List.mem_of_getElem? (i := 23) rfl))), List.forall_mem_cons.mpr ⟨List.mem_cons_of_mem _ (List.mem_append_left _ (List.mem_append_right _ (List.mem_append_left _ (List.mem_of_getElem? (i := 0) rfl)))), List.forall_mem_cons.mpr ⟨List.mem_cons_of_mem _ (List.mem_append_left _ (List.mem_append_right _ (List.mem_append_left _ (List.mem_of_getElem? (i := 1) rfl)))), nowords_in⟩⟩⟩⟩⟩⟩⟩, (fun _ h => List.mem_cons_of_mem _ (List.mem_append_right _ (h)))⟩⟩)
set_option maxRecDepth 20000 in
theorem gX11_lives_X11_holds : GoodIn wsX11_lives (wsV RX11 404 RX11 yX11_holds wsX11_holds) := goodIn_app (goodIn_by gd_X11_lives (List.forall_mem_cons.mpr ⟨List.mem_cons_of_mem _ (List.mem_append_left _ (List.mem_append_right _ (List.mem_append_right _ (List.mem_append_right _ (List.mem_of_getElem? (i := 3) rfl))))), List.forall_mem_cons.mpr ⟨List.mem_cons_of_mem _ (List.mem_append_left _ (List.mem_append_right _ (List.mem_append_right _ (List.mem_append_right _ (List.mem_of_getElem? (i := 4) rfl))))), List.forall_mem_cons.mpr ⟨List.mem_cons_of_mem _ (List.mem_append_left _ (List.mem_append_right _ (List.mem_append_right _ (List.mem_append_right _ (List.mem_of_getElem? (i := 5) rfl))))), List.forall_mem_cons.mpr ⟨List.mem_cons_of_mem _ (List.mem_append_left _ (List.mem_append_left _ (List.mem_of_getElem? (i := 8) rfl))), nowords_in⟩⟩⟩⟩)) ggX11_lives_X11_holds
set_option maxRecDepth 20000 in
theorem ggX11_lives_X11_behindEnds : GoodIn wsX11_lives wsX11_behindEnds := goodIn_by gd_X11_lives (List.forall_mem_cons.mpr ⟨List.mem_cons_of_mem _ (List.mem_append_left _ (List.mem_append_right _ (List.mem_append_right _ (List.mem_append_right _ (List.mem_of_getElem? (i := 14) rfl))))), List.forall_mem_append.mpr ⟨List.forall_mem_cons.mpr ⟨List.mem_cons_of_mem _ (List.mem_append_left _ (List.mem_append_left _ (List.mem_of_getElem? (i := 3) rfl))), List.forall_mem_cons.mpr ⟨List.mem_cons_of_mem _ (List.mem_append_left _ (List.mem_append_left _ (List.mem_of_getElem? (i := 4) rfl))), nowords_in⟩⟩, (fun _ h => List.mem_cons_of_mem _ (List.mem_append_right _ (h)))⟩⟩)
set_option maxRecDepth 20000 in
theorem gX11_lives_X11_behindEnds : GoodIn wsX11_lives (wsV RX11 407 RX11 yX11_behindEnds wsX11_behindEnds) := goodIn_app (goodIn_by gd_X11_lives (List.forall_mem_cons.mpr ⟨List.mem_cons_of_mem _ (List.mem_append_left _ (List.mem_append_right _ (List.mem_append_right _ (List.mem_append_right _ (List.mem_of_getElem? (i := 11) rfl))))), List.forall_mem_cons.mpr ⟨List.mem_cons_of_mem _ (List.mem_append_left _ (List.mem_append_right _ (List.mem_append_right _ (List.mem_append_right _ (List.mem_of_getElem? (i := 12) rfl))))), List.forall_mem_cons.mpr ⟨List.mem_cons_of_mem _ (List.mem_append_left _ (List.mem_append_right _ (List.mem_append_right _ (List.mem_append_right _ (List.mem_of_getElem? (i := 13) rfl))))), List.forall_mem_cons.mpr ⟨List.mem_cons_of_mem _ (List.mem_append_left _ (List.mem_append_left _ (List.mem_of_getElem? (i := 8) rfl))), nowords_in⟩⟩⟩⟩)) ggX11_lives_X11_behindEnds
theorem dX11_lives_0 : decode cX11_lives 0 = .ok (.aload_n 0, 1) := by decide +kernel
theorem dX11_lives_1 : decode cX11_lives 1 = .ok (.iload_n 1, 1) := by decide +kernel
theorem dX11_lives_2 : decode cX11_lives 2 = .ok (.putfield 273, 3) := by decide +kernel
theorem dX11_lives_5 : decode cX11_lives 5 = .ok (.aload_n 0, 1) := by decide +kernel
theorem dX11_lives_6 : decode cX11_lives 6 = .ok (.iconst 0, 1) := by decide +kernel
theorem dX11_lives_7 : decode cX11_lives 7 = .ok (.putfield 398, 3) := by decide +kernel
theorem dX11_lives_10 : decode cX11_lives 10 = .ok (.iconst 0, 1) := by decide +kernel
theorem dX11_lives_11 : decode cX11_lives 11 = .ok (.istore_n 2, 1) := by decide +kernel
theorem dX11_lives_12 : decode cX11_lives 12 = .ok (.iload_n 2, 1) := by decide +kernel
theorem dX11_lives_13 : decode cX11_lives 13 = .ok (.iconst 4, 1) := by decide +kernel
theorem dX11_lives_14 : decode cX11_lives 14 = .ok (.if_icmp .ge 16, 3) := by decide +kernel
theorem dX11_lives_17 : decode cX11_lives 17 = .ok (.aload_n 0, 1) := by decide +kernel
theorem dX11_lives_18 : decode cX11_lives 18 = .ok (.getfield 59, 3) := by decide +kernel
theorem dX11_lives_21 : decode cX11_lives 21 = .ok (.iload_n 2, 1) := by decide +kernel
theorem dX11_lives_22 : decode cX11_lives 22 = .ok (.iconst 0, 1) := by decide +kernel
theorem dX11_lives_23 : decode cX11_lives 23 = .ok (.iastore, 1) := by decide +kernel
theorem dX11_lives_24 : decode cX11_lives 24 = .ok (.iinc 2 1, 3) := by decide +kernel
theorem dX11_lives_27 : decode cX11_lives 27 = .ok (.goto (-15), 3) := by decide +kernel
theorem dX11_lives_30 : decode cX11_lives 30 = .ok (.iconst 0, 1) := by decide +kernel
theorem dX11_lives_31 : decode cX11_lives 31 = .ok (.istore_n 2, 1) := by decide +kernel
theorem dX11_lives_32 : decode cX11_lives 32 = .ok (.iload_n 2, 1) := by decide +kernel
theorem dX11_lives_33 : decode cX11_lives 33 = .ok (.aload_n 0, 1) := by decide +kernel
theorem dX11_lives_34 : decode cX11_lives 34 = .ok (.getfield 7, 3) := by decide +kernel
theorem dX11_lives_37 : decode cX11_lives 37 = .ok (.iconst 3, 1) := by decide +kernel
theorem dX11_lives_38 : decode cX11_lives 38 = .ok (.iaload, 1) := by decide +kernel
theorem dX11_lives_39 : decode cX11_lives 39 = .ok (.if_icmp .ge 145, 3) := by decide +kernel
theorem dX11_lives_42 : decode cX11_lives 42 = .ok (.aload_n 0, 1) := by decide +kernel
theorem dX11_lives_43 : decode cX11_lives 43 = .ok (.getfield 398, 3) := by decide +kernel
theorem dX11_lives_46 : decode cX11_lives 46 = .ok (.sipush 200, 3) := by decide +kernel
theorem dX11_lives_49 : decode cX11_lives 49 = .ok (.if_icmp .ne 11, 3) := by decide +kernel
theorem dX11_lives_52 : decode cX11_lives 52 = .ok (.aload_n 0, 1) := by decide +kernel
theorem dX11_lives_53 : decode cX11_lives 53 = .ok (.getfield 59, 3) := by decide +kernel
theorem dX11_lives_56 : decode cX11_lives 56 = .ok (.iconst 3, 1) := by decide +kernel
theorem dX11_lives_57 : decode cX11_lives 57 = .ok (.iconst 1, 1) := by decide +kernel
theorem dX11_lives_58 : decode cX11_lives 58 = .ok (.iastore, 1) := by decide +kernel
theorem dX11_lives_59 : decode cX11_lives 59 = .ok (.return_, 1) := by decide +kernel
theorem dX11_lives_60 : decode cX11_lives 60 = .ok (.sipush 670, 3) := by decide +kernel
theorem dX11_lives_63 : decode cX11_lives 63 = .ok (.bipush 6, 2) := by decide +kernel
theorem dX11_lives_65 : decode cX11_lives 65 = .ok (.iload_n 2, 1) := by decide +kernel
theorem dX11_lives_66 : decode cX11_lives 66 = .ok (.imul, 1) := by decide +kernel
theorem dX11_lives_67 : decode cX11_lives 67 = .ok (.iadd, 1) := by decide +kernel
theorem dX11_lives_68 : decode cX11_lives 68 = .ok (.istore_n 3, 1) := by decide +kernel
theorem dX11_lives_69 : decode cX11_lives 69 = .ok (.aload_n 0, 1) := by decide +kernel
theorem dX11_lives_70 : decode cX11_lives 70 = .ok (.dup, 1) := by decide +kernel
theorem dX11_lives_71 : decode cX11_lives 71 = .ok (.getfield 398, 3) := by decide +kernel
theorem dX11_lives_74 : decode cX11_lives 74 = .ok (.iconst 1, 1) := by decide +kernel
theorem dX11_lives_75 : decode cX11_lives 75 = .ok (.iadd, 1) := by decide +kernel
theorem dX11_lives_76 : decode cX11_lives 76 = .ok (.putfield 398, 3) := by decide +kernel
theorem dX11_lives_79 : decode cX11_lives 79 = .ok (.aload_n 0, 1) := by decide +kernel
theorem dX11_lives_80 : decode cX11_lives 80 = .ok (.getfield 7, 3) := by decide +kernel
theorem dX11_lives_83 : decode cX11_lives 83 = .ok (.iload_n 3, 1) := by decide +kernel
theorem dX11_lives_84 : decode cX11_lives 84 = .ok (.iaload, 1) := by decide +kernel
theorem dX11_lives_85 : decode cX11_lives 85 = .ok (.bipush 26, 2) := by decide +kernel
theorem dX11_lives_87 : decode cX11_lives 87 = .ok (.if_icmp .ne 4, 3) := by decide +kernel
theorem dX11_lives_90 : decode cX11_lives 90 = .ok (.return_, 1) := by decide +kernel
theorem dX11_lives_91 : decode cX11_lives 91 = .ok (.aload_n 0, 1) := by decide +kernel
theorem dX11_lives_92 : decode cX11_lives 92 = .ok (.getfield 59, 3) := by decide +kernel
theorem dX11_lives_95 : decode cX11_lives 95 = .ok (.iconst 0, 1) := by decide +kernel
theorem dX11_lives_96 : decode cX11_lives 96 = .ok (.dup2, 1) := by decide +kernel
theorem dX11_lives_97 : decode cX11_lives 97 = .ok (.iaload, 1) := by decide +kernel
theorem dX11_lives_98 : decode cX11_lives 98 = .ok (.aload_n 0, 1) := by decide +kernel
theorem dX11_lives_99 : decode cX11_lives 99 = .ok (.iload_n 3, 1) := by decide +kernel
theorem dX11_lives_100 : decode cX11_lives 100 = .ok (.invokevirtual 401, 3) := by decide +kernel
theorem dX11_lives_103 : decode cX11_lives 103 = .ok (.ifCond .eq 7, 3) := by decide +kernel
theorem dX11_lives_106 : decode cX11_lives 106 = .ok (.iconst 0, 1) := by decide +kernel
theorem dX11_lives_107 : decode cX11_lives 107 = .ok (.goto 4, 3) := by decide +kernel
theorem dX11_lives_110 : decode cX11_lives 110 = .ok (.iconst 1, 1) := by decide +kernel
theorem dX11_lives_111 : decode cX11_lives 111 = .ok (.iadd, 1) := by decide +kernel
theorem dX11_lives_112 : decode cX11_lives 112 = .ok (.iastore, 1) := by decide +kernel
theorem dX11_lives_113 : decode cX11_lives 113 = .ok (.aload_n 0, 1) := by decide +kernel
theorem dX11_lives_114 : decode cX11_lives 114 = .ok (.getfield 7, 3) := by decide +kernel
theorem dX11_lives_117 : decode cX11_lives 117 = .ok (.iload_n 3, 1) := by decide +kernel
theorem dX11_lives_118 : decode cX11_lives 118 = .ok (.iaload, 1) := by decide +kernel
theorem dX11_lives_119 : decode cX11_lives 119 = .ok (.bipush 24, 2) := by decide +kernel
theorem dX11_lives_121 : decode cX11_lives 121 = .ok (.if_icmp .ne 19, 3) := by decide +kernel
theorem dX11_lives_124 : decode cX11_lives 124 = .ok (.aload_n 0, 1) := by decide +kernel
theorem dX11_lives_125 : decode cX11_lives 125 = .ok (.getfield 56, 3) := by decide +kernel
theorem dX11_lives_128 : decode cX11_lives 128 = .ok (.iload_n 2, 1) := by decide +kernel
theorem dX11_lives_129 : decode cX11_lives 129 = .ok (.aload_n 0, 1) := by decide +kernel
theorem dX11_lives_130 : decode cX11_lives 130 = .ok (.getfield 7, 3) := by decide +kernel
theorem dX11_lives_133 : decode cX11_lives 133 = .ok (.iload_n 3, 1) := by decide +kernel
theorem dX11_lives_134 : decode cX11_lives 134 = .ok (.iconst 1, 1) := by decide +kernel
theorem dX11_lives_135 : decode cX11_lives 135 = .ok (.iadd, 1) := by decide +kernel
theorem dX11_lives_136 : decode cX11_lives 136 = .ok (.iaload, 1) := by decide +kernel
theorem dX11_lives_137 : decode cX11_lives 137 = .ok (.iconst 1, 1) := by decide +kernel
theorem dX11_lives_138 : decode cX11_lives 138 = .ok (.isub, 1) := by decide +kernel
theorem dX11_lives_139 : decode cX11_lives 139 = .ok (.iastore, 1) := by decide +kernel
theorem dX11_lives_140 : decode cX11_lives 140 = .ok (.aload_n 0, 1) := by decide +kernel
theorem dX11_lives_141 : decode cX11_lives 141 = .ok (.aload_n 0, 1) := by decide +kernel
theorem dX11_lives_142 : decode cX11_lives 142 = .ok (.getfield 7, 3) := by decide +kernel
theorem dX11_lives_145 : decode cX11_lives 145 = .ok (.iload_n 3, 1) := by decide +kernel
theorem dX11_lives_146 : decode cX11_lives 146 = .ok (.iaload, 1) := by decide +kernel
theorem dX11_lives_147 : decode cX11_lives 147 = .ok (.sipush 2300, 3) := by decide +kernel
theorem dX11_lives_150 : decode cX11_lives 150 = .ok (.if_icmp .lt 24, 3) := by decide +kernel
theorem dX11_lives_153 : decode cX11_lives 153 = .ok (.aload_n 0, 1) := by decide +kernel
theorem dX11_lives_154 : decode cX11_lives 154 = .ok (.iload_n 3, 1) := by decide +kernel
theorem dX11_lives_155 : decode cX11_lives 155 = .ok (.invokevirtual 404, 3) := by decide +kernel
theorem dX11_lives_158 : decode cX11_lives 158 = .ok (.ifCond .ne 16, 3) := by decide +kernel
theorem dX11_lives_161 : decode cX11_lives 161 = .ok (.aload_n 0, 1) := by decide +kernel
theorem dX11_lives_162 : decode cX11_lives 162 = .ok (.getfield 7, 3) := by decide +kernel
theorem dX11_lives_165 : decode cX11_lives 165 = .ok (.iload_n 3, 1) := by decide +kernel
theorem dX11_lives_166 : decode cX11_lives 166 = .ok (.iconst 4, 1) := by decide +kernel
theorem dX11_lives_167 : decode cX11_lives 167 = .ok (.iadd, 1) := by decide +kernel
theorem dX11_lives_168 : decode cX11_lives 168 = .ok (.iaload, 1) := by decide +kernel
theorem dX11_lives_169 : decode cX11_lives 169 = .ok (.iconst 1, 1) := by decide +kernel
theorem dX11_lives_170 : decode cX11_lives 170 = .ok (.iadd, 1) := by decide +kernel
theorem dX11_lives_171 : decode cX11_lives 171 = .ok (.goto 6, 3) := by decide +kernel
theorem dX11_lives_174 : decode cX11_lives 174 = .ok (.iload_n 2, 1) := by decide +kernel
theorem dX11_lives_175 : decode cX11_lives 175 = .ok (.iconst 1, 1) := by decide +kernel
theorem dX11_lives_176 : decode cX11_lives 176 = .ok (.iadd, 1) := by decide +kernel
theorem dX11_lives_177 : decode cX11_lives 177 = .ok (.invokevirtual 407, 3) := by decide +kernel
theorem dX11_lives_180 : decode cX11_lives 180 = .ok (.istore_n 2, 1) := by decide +kernel
theorem dX11_lives_181 : decode cX11_lives 181 = .ok (.goto (-149), 3) := by decide +kernel
theorem dX11_lives_184 : decode cX11_lives 184 = .ok (.return_, 1) := by decide +kernel
abbrev rmX11_lives : Room := { frames := 6, cells := 0, slots := 0, locals := 135 }
set_option maxHeartbeats 4000000 in
set_option maxRecDepth 100000 in
theorem kX11_lives (l : Launch) (D : va_G) (cy : Nat → ClassId) (h0 : Nat) (a0 : Nat → Nat) (s0 : Rc) (p1 : Int32) (res : Rc) (h : fX11_lives p1 s0 = some res) : CV l D cy yX11_lives wsX11_lives rmX11_lives [.ref h0, .int p1] (flat [WX11 cy h0 a0 s0]) (flat [WX11 cy h0 a0 res]) := by
  refine CV.of (cc := cX11_lives) (maxL := 4) (by decide) rfl (Nat.le_of_ble_eq_true rfl) ?_
  intro p e s m args below meth c A QQ ls E hr
  obtain ⟨hx, hb, hml, hown, hts, hK, hN, hP, hD, hA, hl⟩ := E
  have hret : ∀ (pc : Nat) (H : Heap) (locs : List Loc) (ls : Array Slot) (u : Rc), u = res → va_P D vwCl (flat [WX11 cy h0 a0 u]) H → va_D A (flat [WX11 cy h0 a0 u]) → va_S A s.heap H locs → decode cX11_lives pc = .ok (.return_, 1) → W p l e rmX11_lives s m args below meth c H locs 0 0 QQ (F0 m pc ls []) := by
    intro pc H locs ls u hu hP hD hS hd; subst hu; exact hr pc H locs ls hP hD hS hd
  clear hr
  have hl : lv_has ls 4 [(0, .ref h0), (1, .int p1)] := hl
  have hinX11 : ∀ w ∈ wsX110, w ∈ wsX11_lives := fun _ h => List.mem_cons_of_mem _ (List.mem_append_right _ h)
  unfold fX11_lives at h
  suffices key : ∀ (H : Heap) (locs : List Loc), va_P D vwCl (flat [WX11 cy h0 a0 s0]) H → va_S A s.heap H locs → W p l e rmX11_lives s m args below meth c H locs 0 0 QQ (F0 m 0 ls []) from key _ _ hP va_S.rf
  clear hP
  intro H locs hP hS
  refine lv_aload_n hx hb dX11_lives_0 rfl (lv_at hl 0 rfl) ?_
  refine lv_iload_n hx hb dX11_lives_1 rfl (lv_at hl 1 rfl) ?_
  obtain ⟨s0_1, es, h⟩ := lt_elim h
  refine va_put (D := D) (ci := 11) (v := .int p1) (ty := .int) (C := RX11) (T := TX11) (N := 38) hx hb hts hinX11 tyX11 tyX11_ok nmX11 hown hK hP hD hS 0 rfl rfl 24 (by decide) (hts (.fieldLink RX11 273 "KneeBenchModel" "drawn" "I") (List.mem_of_getElem? (i := 1) rfl)) (fun _ h9 => h9) rfl (by decide +kernel) rfl rfl (Nat.le_of_ble_eq_true rfl) dX11_lives_2 (fun H locs hP hD hS => ?_)
  have hP : va_P D vwCl (flat [WX11 cy h0 a0 s0_1]) H := by rw [es]; exact hP
  have hD : va_D A (flat [WX11 cy h0 a0 s0_1]) := by rw [es]; exact hD
  clear es
  refine lv_aload_n hx hb dX11_lives_5 rfl (lv_at hl 0 rfl) ?_
  refine lv_iconst (v := 0) hx hb dX11_lives_6 (by decide) ?_
  obtain ⟨s0_2, es, h⟩ := lt_elim h
  refine va_put (D := D) (ci := 11) (v := .int (0 : Int32)) (ty := .int) (C := RX11) (T := TX11) (N := 38) hx hb hts hinX11 tyX11 tyX11_ok nmX11 hown hK hP hD hS 0 rfl rfl 32 (by decide) (hts (.fieldLink RX11 398 "KneeBenchModel" "ranSteps" "I") (List.mem_of_getElem? (i := 2) rfl)) (fun _ h9 => h9) rfl (by decide +kernel) rfl rfl (Nat.le_of_ble_eq_true rfl) dX11_lives_7 (fun H locs hP hD hS => ?_)
  have hP : va_P D vwCl (flat [WX11 cy h0 a0 s0_2]) H := by rw [es]; exact hP
  have hD : va_D A (flat [WX11 cy h0 a0 s0_2]) := by rw [es]; exact hD
  clear es
  refine lv_iconst (v := 0) hx hb dX11_lives_10 (by decide) ?_
  refine lv_istore_n (lv' := [(2, .int (0 : Int32)), (0, .ref h0), (1, .int p1)]) hx hb dX11_lives_11 rfl hl (by decide) rfl (fun ls hl => ?_)
  have L12 : ∀ (n : Nat) (q12 : Int32 × Rc) (o : Rc), loopO (fX11_lives_L12) n q12 = some o → ∀ (H : Heap) (locs : List Loc) (ls : Array Slot), lv_has ls 4 [(0, .ref h0), (2, .int q12.1)] → va_P D vwCl (flat [WX11 cy h0 a0 q12.2]) H → va_D A (flat [WX11 cy h0 a0 q12.2]) → va_S A s.heap H locs → ∀ (kk30 : ∀ (H : Heap) (locs : List Loc) (ls : Array Slot), lv_has ls 4 [(0, .ref h0)] → va_P D vwCl (flat [WX11 cy h0 a0 o]) H → va_D A (flat [WX11 cy h0 a0 o]) → va_S A s.heap H locs → W p l e rmX11_lives s m args below meth c H locs 0 0 QQ (F0 m 30 ls [])), W p l e rmX11_lives s m args below meth c H locs 0 0 QQ (F0 m 12 ls []) := by
    intro n
    induction n with
    | zero => intro q12 o h; exact absurd h (by rw [loopO_zero]; intro z; cases z)
    | succ n ih =>
      intro q12 o h H locs ls hl hP hD hS kk30
      obtain ⟨w, h, hgo, hst⟩ := loopO_elim h
      unfold fX11_lives_L12 at h
      refine lv_iload_n hx hb dX11_lives_12 rfl (lv_at hl 1 rfl) ?_
      refine lv_iconst (v := 4) hx hb dX11_lives_13 (by decide) ?_
      refine lv_icmp_ge (tgt := 30) hx hb dX11_lives_14 (by decide) (fun c3 => ?_) (fun c3 => ?_)
      · replace h := (if_pos c3).symm.trans h
        have eo := hst _ (Option.some.inj h).symm
        subst eo
        exact kk30 H locs ls (lv_sub hl [0] rfl) hP hD hS
      · replace h := (if_neg c3).symm.trans h
        refine lv_aload_n hx hb dX11_lives_17 rfl (lv_at hl 0 rfl) ?_
        refine va_get (D := D) (ci := 11) (v := .ref (a0 34)) (C := RX11) (T := TX11) (N := 38) hx hb hts hinX11 hown hK hP 0 rfl rfl 34 (by decide) (hts (.fieldLink RX11 59 "KneeBenchModel" "ran" "[I") (List.mem_of_getElem? (i := 3) rfl)) (fun _ h9 => h9) rfl dX11_lives_18 ?_
        refine lv_iload_n hx hb dX11_lives_21 rfl (lv_at hl 1 rfl) ?_
        refine lv_iconst (v := 0) hx hb dX11_lives_22 (by decide) ?_
        obtain ⟨g4, h⟩ := gd_elim h
        obtain ⟨s0_5, es, h⟩ := lt_elim h
        refine va_iast hx hb hK hP hD hS 12 1 rfl rfl (inb_in g4) dX11_lives_23 (fun H locs hP hD hS => ?_)
        have hP : va_P D vwCl (flat [WX11 cy h0 a0 s0_5]) H := by rw [es]; exact hP
        have hD : va_D A (flat [WX11 cy h0 a0 s0_5]) := by rw [es]; exact hD
        clear es
        refine lv_iinc (v := (q12.1 + (1 : Int32))) (lv' := [(2, .int (q12.1 + (1 : Int32))), (0, .ref h0)]) hx hb dX11_lives_24 hl (k := 1) rfl rfl (by decide) rfl (fun ls hl => ?_)
        refine lv_goto (tgt := 12) hx hb dX11_lives_27 (by decide) ?_
        exact ih _ o (hgo _ (Option.some.inj h).symm) H locs ls (lv_sub hl [1, 0] rfl) hP hD hS kk30
  obtain ⟨o12, ho12, h⟩ := bd_elim h
  obtain ⟨n12, hn12⟩ := loopF_some ho12
  refine L12 n12 _ o12 hn12 H locs ls (lv_sub hl [1, 0] rfl) hP hD hS (fun H locs ls hl hP hD hS => ?_)
  refine lv_iconst (v := 0) hx hb dX11_lives_30 (by decide) ?_
  refine lv_istore_n (lv' := [(2, .int (0 : Int32)), (0, .ref h0)]) hx hb dX11_lives_31 rfl hl (by decide) rfl (fun ls hl => ?_)
  have L32 : ∀ (n : Nat) (q32 : Int32 × Rc) (o : (Rc) ⊕ (Rc) ⊕ (Rc)), loopO (fX11_lives_L32) n q32 = some o → ∀ (H : Heap) (locs : List Loc) (ls : Array Slot), lv_has ls 4 [(0, .ref h0), (2, .int q32.1)] → va_P D vwCl (flat [WX11 cy h0 a0 q32.2]) H → va_D A (flat [WX11 cy h0 a0 q32.2]) → va_S A s.heap H locs → ∀ (kk52 : ∀ v : Rc, o = (.inl v) → ∀ (H : Heap) (locs : List Loc) (ls : Array Slot), lv_has ls 4 [(0, .ref h0)] → va_P D vwCl (flat [WX11 cy h0 a0 v]) H → va_D A (flat [WX11 cy h0 a0 v]) → va_S A s.heap H locs → W p l e rmX11_lives s m args below meth c H locs 0 0 QQ (F0 m 52 ls [])) (kk90 : ∀ v : Rc, o = (.inr (.inl v)) → ∀ (H : Heap) (locs : List Loc) (ls : Array Slot), lv_has ls 4 [] → va_P D vwCl (flat [WX11 cy h0 a0 v]) H → va_D A (flat [WX11 cy h0 a0 v]) → va_S A s.heap H locs → W p l e rmX11_lives s m args below meth c H locs 0 0 QQ (F0 m 90 ls [])) (kk184 : ∀ v : Rc, o = (.inr (.inr v)) → ∀ (H : Heap) (locs : List Loc) (ls : Array Slot), lv_has ls 4 [] → va_P D vwCl (flat [WX11 cy h0 a0 v]) H → va_D A (flat [WX11 cy h0 a0 v]) → va_S A s.heap H locs → W p l e rmX11_lives s m args below meth c H locs 0 0 QQ (F0 m 184 ls [])), W p l e rmX11_lives s m args below meth c H locs 0 0 QQ (F0 m 32 ls []) := by
    intro n
    induction n with
    | zero => intro q32 o h; exact absurd h (by rw [loopO_zero]; intro z; cases z)
    | succ n ih =>
      intro q32 o h H locs ls hl hP hD hS kk52 kk90 kk184
      obtain ⟨w, h, hgo, hst⟩ := loopO_elim h
      unfold fX11_lives_L32 at h
      have J174 : ∀ (t174_0 : Rc) (H : Heap) (locs : List Loc) (ls : Array Slot), lv_has ls 4 [(0, .ref h0), (2, .int q32.1)] → va_P D vwCl (flat [WX11 cy h0 a0 t174_0]) H → va_D A (flat [WX11 cy h0 a0 t174_0]) → va_S A s.heap H locs → fX11_lives_J174 q32 t174_0 = some w → W p l e rmX11_lives s m args below meth c H locs 0 0 QQ (F0 m 174 ls [.ref h0]) := by
        intro t174_0 H locs ls hl hP hD hS h
        unfold fX11_lives_J174 at h
        refine lv_iload_n hx hb dX11_lives_174 rfl (lv_at hl 1 rfl) ?_
        refine lv_iconst (v := 1) hx hb dX11_lives_175 (by decide) ?_
        refine lv_iadd hx hb dX11_lives_176 ?_
        obtain ⟨r6, hr6, h⟩ := bd_elim h
        refine ca_i (w' := [WX11 cy h0 a0 r6.2]) (rn_V (As := [.int (q32.1 + (1 : Int32))]) (rest := []) ⟨hx, hb, hml, hown, hts⟩ (kX11_behindEnds l D cy h0 a0 t174_0 (q32.1 + (1 : Int32)) r6 hr6 H.size) (cwV 1 hts gX11_lives_X11_behindEnds rfl rfl rfl (by decide +kernel) ⟨Nat.le_of_ble_eq_true rfl, Nat.le_of_ble_eq_true rfl⟩) hK hN hP hD [0] rfl rfl (ci := 11) (q0 := 0) rfl rfl rfl rfl hl.1 rfl (Nat.le_of_ble_eq_true rfl) dX11_lives_177 ⟨Nat.le_refl 0, Nat.le_refl 0⟩) hP hD hS hA [0] ⟨rfl, rfl, rfl, rfl⟩ (fun H locs hP hD hS => ?_)
        refine lv_istore_n (lv' := [(2, .int r6.1), (0, .ref h0)]) hx hb dX11_lives_180 rfl hl (by decide) rfl (fun ls hl => ?_)
        refine lv_goto (tgt := 32) hx hb dX11_lives_181 (by decide) ?_
        exact ih _ o (hgo _ (Option.some.inj h).symm) H locs ls (lv_sub hl [1, 0] rfl) hP hD hS kk52 kk90 kk184
      have J140 : ∀ (y140_3 : Int32) (t140_0 : Rc) (H : Heap) (locs : List Loc) (ls : Array Slot), lv_has ls 4 [(0, .ref h0), (2, .int q32.1), (3, .int y140_3)] → va_P D vwCl (flat [WX11 cy h0 a0 t140_0]) H → va_D A (flat [WX11 cy h0 a0 t140_0]) → va_S A s.heap H locs → fX11_lives_J140 q32 y140_3 t140_0 = some w → W p l e rmX11_lives s m args below meth c H locs 0 0 QQ (F0 m 140 ls []) := by
        intro y140_3 t140_0 H locs ls hl hP hD hS h
        unfold fX11_lives_J140 at h
        refine lv_aload_n hx hb dX11_lives_140 rfl (lv_at hl 0 rfl) ?_
        refine lv_aload_n hx hb dX11_lives_141 rfl (lv_at hl 0 rfl) ?_
        refine va_get (D := D) (ci := 11) (v := .ref (a0 0)) (C := RX11) (T := TX11) (N := 38) hx hb hts hinX11 hown hK hP 0 rfl rfl 0 (by decide) (hts (.fieldLink RX11 7 "KneeBenchModel" "at" "[I") (List.mem_of_getElem? (i := 4) rfl)) (fun _ h9 => h9) rfl dX11_lives_142 ?_
        refine lv_iload_n hx hb dX11_lives_145 rfl (lv_at hl 2 rfl) ?_
        obtain ⟨g7, h⟩ := gd_elim h
        refine va_iald hx hb hK hP 1 1 rfl rfl (inb_in g7) dX11_lives_146 ?_
        refine lv_sipush (v := 2300) hx hb dX11_lives_147 (by decide) ?_
        refine lv_icmp_lt (tgt := 174) hx hb dX11_lives_150 (by decide) (fun c8 => ?_) (fun c8 => ?_)
        · replace h := (if_pos c8).symm.trans h
          exact J174 t140_0 H locs ls (lv_sub hl [0, 1] rfl) hP hD hS h
        · replace h := (if_neg c8).symm.trans h
          refine lv_aload_n hx hb dX11_lives_153 rfl (lv_at hl 0 rfl) ?_
          refine lv_iload_n hx hb dX11_lives_154 rfl (lv_at hl 2 rfl) ?_
          obtain ⟨r9, hr9, h⟩ := bd_elim h
          refine ca_z (w' := [WX11 cy h0 a0 t140_0]) (rn_V (As := [.int y140_3]) (rest := [.ref h0]) ⟨hx, hb, hml, hown, hts⟩ (kX11_holds l D cy h0 a0 t140_0 y140_3 r9 hr9 H.size) (cwV 1 hts gX11_lives_X11_holds rfl rfl rfl (by decide +kernel) ⟨Nat.le_of_ble_eq_true rfl, Nat.le_of_ble_eq_true rfl⟩) hK hN hP hD [0] rfl rfl (ci := 11) (q0 := 0) rfl rfl rfl rfl hl.1 rfl (Nat.le_of_ble_eq_true rfl) dX11_lives_155 ⟨Nat.le_refl 0, Nat.le_refl 0⟩) hP hD hS hA [0] ⟨rfl, rfl, rfl, rfl⟩ (fun b10 H locs hP hD hS => ?_)
          refine lv_if_ne (tgt := 174) hx hb dX11_lives_158 (by decide) (fun c11 => ?_) (fun c11 => ?_)
          · replace h := (if_neg c11).symm.trans h
            exact J174 t140_0 H locs ls (lv_sub hl [0, 1] rfl) hP hD hS h
          · replace h := (if_pos c11).symm.trans h
            refine lv_aload_n hx hb dX11_lives_161 rfl (lv_at hl 0 rfl) ?_
            refine va_get (D := D) (ci := 11) (v := .ref (a0 0)) (C := RX11) (T := TX11) (N := 38) hx hb hts hinX11 hown hK hP 0 rfl rfl 0 (by decide) (hts (.fieldLink RX11 7 "KneeBenchModel" "at" "[I") (List.mem_of_getElem? (i := 4) rfl)) (fun _ h9 => h9) rfl dX11_lives_162 ?_
            refine lv_iload_n hx hb dX11_lives_165 rfl (lv_at hl 2 rfl) ?_
            refine lv_iconst (v := 4) hx hb dX11_lives_166 (by decide) ?_
            refine lv_iadd hx hb dX11_lives_167 ?_
            obtain ⟨g12, h⟩ := gd_elim h
            refine va_iald hx hb hK hP 1 1 rfl rfl (inb_in g12) dX11_lives_168 ?_
            refine lv_iconst (v := 1) hx hb dX11_lives_169 (by decide) ?_
            refine lv_iadd hx hb dX11_lives_170 ?_
            refine lv_goto (tgt := 177) hx hb dX11_lives_171 (by decide) ?_
            obtain ⟨r13, hr13, h⟩ := bd_elim h
            refine ca_i (w' := [WX11 cy h0 a0 r13.2]) (rn_V (As := [.int ((ga t140_0 0 (y140_3 + (4 : Int32)).toNatClampNeg) + (1 : Int32))]) (rest := []) ⟨hx, hb, hml, hown, hts⟩ (kX11_behindEnds l D cy h0 a0 t140_0 ((ga t140_0 0 (y140_3 + (4 : Int32)).toNatClampNeg) + (1 : Int32)) r13 hr13 H.size) (cwV 1 hts gX11_lives_X11_behindEnds rfl rfl rfl (by decide +kernel) ⟨Nat.le_of_ble_eq_true rfl, Nat.le_of_ble_eq_true rfl⟩) hK hN hP hD [0] rfl rfl (ci := 11) (q0 := 0) rfl rfl rfl rfl hl.1 rfl (Nat.le_of_ble_eq_true rfl) dX11_lives_177 ⟨Nat.le_refl 0, Nat.le_refl 0⟩) hP hD hS hA [0] ⟨rfl, rfl, rfl, rfl⟩ (fun H locs hP hD hS => ?_)
            refine lv_istore_n (lv' := [(2, .int r13.1), (0, .ref h0), (3, .int y140_3)]) hx hb dX11_lives_180 rfl hl (by decide) rfl (fun ls hl => ?_)
            refine lv_goto (tgt := 32) hx hb dX11_lives_181 (by decide) ?_
            exact ih _ o (hgo _ (Option.some.inj h).symm) H locs ls (lv_sub hl [1, 0] rfl) hP hD hS kk52 kk90 kk184
      have J111 : ∀ (y111_3 : Int32) (z111_0 : Int32) (z111_1 : Int32) (z111_2 : Int32) (t111_0 : Rc) (H : Heap) (locs : List Loc) (ls : Array Slot), lv_has ls 4 [(0, .ref h0), (2, .int q32.1), (3, .int y111_3)] → va_P D vwCl (flat [WX11 cy h0 a0 t111_0]) H → va_D A (flat [WX11 cy h0 a0 t111_0]) → va_S A s.heap H locs → fX11_lives_J111 q32 y111_3 z111_0 z111_1 z111_2 t111_0 = some w → W p l e rmX11_lives s m args below meth c H locs 0 0 QQ (F0 m 111 ls [.int z111_0, .int z111_1, .int z111_2, .ref (a0 34)]) := by
        intro y111_3 z111_0 z111_1 z111_2 t111_0 H locs ls hl hP hD hS h
        unfold fX11_lives_J111 at h
        refine lv_iadd hx hb dX11_lives_111 ?_
        obtain ⟨g14, h⟩ := gd_elim h
        obtain ⟨s0_15, es, h⟩ := lt_elim h
        refine va_iast hx hb hK hP hD hS 12 1 rfl rfl (inb_in g14) dX11_lives_112 (fun H locs hP hD hS => ?_)
        have hP : va_P D vwCl (flat [WX11 cy h0 a0 s0_15]) H := by rw [es]; exact hP
        have hD : va_D A (flat [WX11 cy h0 a0 s0_15]) := by rw [es]; exact hD
        clear es
        refine lv_aload_n hx hb dX11_lives_113 rfl (lv_at hl 0 rfl) ?_
        refine va_get (D := D) (ci := 11) (v := .ref (a0 0)) (C := RX11) (T := TX11) (N := 38) hx hb hts hinX11 hown hK hP 0 rfl rfl 0 (by decide) (hts (.fieldLink RX11 7 "KneeBenchModel" "at" "[I") (List.mem_of_getElem? (i := 4) rfl)) (fun _ h9 => h9) rfl dX11_lives_114 ?_
        refine lv_iload_n hx hb dX11_lives_117 rfl (lv_at hl 2 rfl) ?_
        obtain ⟨g16, h⟩ := gd_elim h
        refine va_iald hx hb hK hP 1 1 rfl rfl (inb_in g16) dX11_lives_118 ?_
        refine lv_bipush (v := 24) hx hb dX11_lives_119 (by decide) ?_
        refine lv_icmp_ne (tgt := 140) hx hb dX11_lives_121 (by decide) (fun c17 => ?_) (fun c17 => ?_)
        · replace h := (if_neg c17).symm.trans h
          exact J140 y111_3 s0_15 H locs ls (lv_sub hl [0, 1, 2] rfl) hP hD hS h
        · replace h := (if_pos c17).symm.trans h
          refine lv_aload_n hx hb dX11_lives_124 rfl (lv_at hl 0 rfl) ?_
          refine va_get (D := D) (ci := 11) (v := .ref (a0 33)) (C := RX11) (T := TX11) (N := 38) hx hb hts hinX11 hown hK hP 0 rfl rfl 33 (by decide) (hts (.fieldLink RX11 56 "KneeBenchModel" "loops" "[I") (List.mem_of_getElem? (i := 5) rfl)) (fun _ h9 => h9) rfl dX11_lives_125 ?_
          refine lv_iload_n hx hb dX11_lives_128 rfl (lv_at hl 1 rfl) ?_
          refine lv_aload_n hx hb dX11_lives_129 rfl (lv_at hl 0 rfl) ?_
          refine va_get (D := D) (ci := 11) (v := .ref (a0 0)) (C := RX11) (T := TX11) (N := 38) hx hb hts hinX11 hown hK hP 0 rfl rfl 0 (by decide) (hts (.fieldLink RX11 7 "KneeBenchModel" "at" "[I") (List.mem_of_getElem? (i := 4) rfl)) (fun _ h9 => h9) rfl dX11_lives_130 ?_
          refine lv_iload_n hx hb dX11_lives_133 rfl (lv_at hl 2 rfl) ?_
          refine lv_iconst (v := 1) hx hb dX11_lives_134 (by decide) ?_
          refine lv_iadd hx hb dX11_lives_135 ?_
          obtain ⟨g18, h⟩ := gd_elim h
          refine va_iald hx hb hK hP 1 1 rfl rfl (inb_in g18) dX11_lives_136 ?_
          refine lv_iconst (v := 1) hx hb dX11_lives_137 (by decide) ?_
          refine lv_isub hx hb dX11_lives_138 ?_
          obtain ⟨g19, h⟩ := gd_elim h
          obtain ⟨s0_20, es, h⟩ := lt_elim h
          refine va_iast hx hb hK hP hD hS 11 1 rfl rfl (inb_in g19) dX11_lives_139 (fun H locs hP hD hS => ?_)
          have hP : va_P D vwCl (flat [WX11 cy h0 a0 s0_20]) H := by rw [es]; exact hP
          have hD : va_D A (flat [WX11 cy h0 a0 s0_20]) := by rw [es]; exact hD
          clear es
          exact J140 y111_3 s0_20 H locs ls (lv_sub hl [0, 1, 2] rfl) hP hD hS h
      refine lv_iload_n hx hb dX11_lives_32 rfl (lv_at hl 1 rfl) ?_
      refine lv_aload_n hx hb dX11_lives_33 rfl (lv_at hl 0 rfl) ?_
      refine va_get (D := D) (ci := 11) (v := .ref (a0 0)) (C := RX11) (T := TX11) (N := 38) hx hb hts hinX11 hown hK hP 0 rfl rfl 0 (by decide) (hts (.fieldLink RX11 7 "KneeBenchModel" "at" "[I") (List.mem_of_getElem? (i := 4) rfl)) (fun _ h9 => h9) rfl dX11_lives_34 ?_
      refine lv_iconst (v := 3) hx hb dX11_lives_37 (by decide) ?_
      refine va_iald hx hb hK hP 1 1 rfl rfl (inb_in (by decide)) dX11_lives_38 ?_
      refine lv_icmp_ge (tgt := 184) hx hb dX11_lives_39 (by decide) (fun c21 => ?_) (fun c21 => ?_)
      · replace h := (if_pos c21).symm.trans h
        have eo := hst _ (Option.some.inj h).symm
        exact kk184 _ eo.symm H locs ls (lv_sub hl [] rfl) hP hD hS
      · replace h := (if_neg c21).symm.trans h
        refine lv_aload_n hx hb dX11_lives_42 rfl (lv_at hl 0 rfl) ?_
        refine va_get (D := D) (ci := 11) (v := .int (gi q32.2 32)) (C := RX11) (T := TX11) (N := 38) hx hb hts hinX11 hown hK hP 0 rfl rfl 32 (by decide) (hts (.fieldLink RX11 398 "KneeBenchModel" "ranSteps" "I") (List.mem_of_getElem? (i := 2) rfl)) (fun _ h9 => h9) rfl dX11_lives_43 ?_
        refine lv_sipush (v := 200) hx hb dX11_lives_46 (by decide) ?_
        refine lv_icmp_ne (tgt := 60) hx hb dX11_lives_49 (by decide) (fun c22 => ?_) (fun c22 => ?_)
        · replace h := (if_neg c22).symm.trans h
          refine lv_sipush (v := 670) hx hb dX11_lives_60 (by decide) ?_
          refine lv_bipush (v := 6) hx hb dX11_lives_63 (by decide) ?_
          refine lv_iload_n hx hb dX11_lives_65 rfl (lv_at hl 1 rfl) ?_
          refine lv_imul hx hb dX11_lives_66 ?_
          refine lv_iadd hx hb dX11_lives_67 ?_
          refine lv_topi (fun x23 ex23 => ?_)
          replace h := lt_use h x23 ex23
          refine lv_istore_n (lv' := [(3, .int x23), (0, .ref h0), (2, .int q32.1)]) hx hb dX11_lives_68 rfl hl (by decide) rfl (fun ls hl => ?_)
          refine lv_aload_n hx hb dX11_lives_69 rfl (lv_at hl 1 rfl) ?_
          refine lv_dup hx hb dX11_lives_70 rfl ?_
          refine va_get (D := D) (ci := 11) (v := .int (gi q32.2 32)) (C := RX11) (T := TX11) (N := 38) hx hb hts hinX11 hown hK hP 0 rfl rfl 32 (by decide) (hts (.fieldLink RX11 398 "KneeBenchModel" "ranSteps" "I") (List.mem_of_getElem? (i := 2) rfl)) (fun _ h9 => h9) rfl dX11_lives_71 ?_
          refine lv_iconst (v := 1) hx hb dX11_lives_74 (by decide) ?_
          refine lv_iadd hx hb dX11_lives_75 ?_
          obtain ⟨s0_24, es, h⟩ := lt_elim h
          refine va_put (D := D) (ci := 11) (v := .int ((gi q32.2 32) + (1 : Int32))) (ty := .int) (C := RX11) (T := TX11) (N := 38) hx hb hts hinX11 tyX11 tyX11_ok nmX11 hown hK hP hD hS 0 rfl rfl 32 (by decide) (hts (.fieldLink RX11 398 "KneeBenchModel" "ranSteps" "I") (List.mem_of_getElem? (i := 2) rfl)) (fun _ h9 => h9) rfl (by decide +kernel) rfl rfl (Nat.le_of_ble_eq_true rfl) dX11_lives_76 (fun H locs hP hD hS => ?_)
          have hP : va_P D vwCl (flat [WX11 cy h0 a0 s0_24]) H := by rw [es]; exact hP
          have hD : va_D A (flat [WX11 cy h0 a0 s0_24]) := by rw [es]; exact hD
          clear es
          refine lv_aload_n hx hb dX11_lives_79 rfl (lv_at hl 1 rfl) ?_
          refine va_get (D := D) (ci := 11) (v := .ref (a0 0)) (C := RX11) (T := TX11) (N := 38) hx hb hts hinX11 hown hK hP 0 rfl rfl 0 (by decide) (hts (.fieldLink RX11 7 "KneeBenchModel" "at" "[I") (List.mem_of_getElem? (i := 4) rfl)) (fun _ h9 => h9) rfl dX11_lives_80 ?_
          refine lv_iload_n hx hb dX11_lives_83 rfl (lv_at hl 0 rfl) ?_
          obtain ⟨g25, h⟩ := gd_elim h
          refine va_iald hx hb hK hP 1 1 rfl rfl (inb_in g25) dX11_lives_84 ?_
          refine lv_bipush (v := 26) hx hb dX11_lives_85 (by decide) ?_
          refine lv_icmp_ne (tgt := 91) hx hb dX11_lives_87 (by decide) (fun c26 => ?_) (fun c26 => ?_)
          · replace h := (if_neg c26).symm.trans h
            refine lv_aload_n hx hb dX11_lives_91 rfl (lv_at hl 1 rfl) ?_
            refine va_get (D := D) (ci := 11) (v := .ref (a0 34)) (C := RX11) (T := TX11) (N := 38) hx hb hts hinX11 hown hK hP 0 rfl rfl 34 (by decide) (hts (.fieldLink RX11 59 "KneeBenchModel" "ran" "[I") (List.mem_of_getElem? (i := 3) rfl)) (fun _ h9 => h9) rfl dX11_lives_92 ?_
            refine lv_iconst (v := 0) hx hb dX11_lives_95 (by decide) ?_
            refine lv_dup2_11 hx hb dX11_lives_96 rfl rfl ?_
            refine va_iald hx hb hK hP 12 1 rfl rfl (inb_in (by decide)) dX11_lives_97 ?_
            refine lv_aload_n hx hb dX11_lives_98 rfl (lv_at hl 1 rfl) ?_
            refine lv_iload_n hx hb dX11_lives_99 rfl (lv_at hl 0 rfl) ?_
            obtain ⟨r27, hr27, h⟩ := bd_elim h
            refine ca_z (w' := [WX11 cy h0 a0 r27.2]) (rn_V (As := [.int x23]) (rest := [.int (ga s0_24 34 (0 : Int32).toNatClampNeg), .int (0 : Int32), .ref (a0 34)]) ⟨hx, hb, hml, hown, hts⟩ (kX11_does l D cy h0 a0 s0_24 x23 r27 hr27 H.size) (cwV 1 hts gX11_lives_X11_does rfl rfl rfl (by decide +kernel) ⟨Nat.le_of_ble_eq_true rfl, Nat.le_of_ble_eq_true rfl⟩) hK hN hP hD [0] rfl rfl (ci := 11) (q0 := 0) rfl rfl rfl rfl hl.1 rfl (Nat.le_of_ble_eq_true rfl) dX11_lives_100 ⟨Nat.le_refl 0, Nat.le_refl 0⟩) hP hD hS hA [0] ⟨rfl, rfl, rfl, rfl⟩ (fun b28 H locs hP hD hS => ?_)
            refine lv_if_eq (tgt := 110) hx hb dX11_lives_103 (by decide) (fun c29 => ?_) (fun c29 => ?_)
            · replace h := (if_pos c29).symm.trans h
              refine lv_iconst (v := 1) hx hb dX11_lives_110 (by decide) ?_
              exact J111 x23 (1 : Int32) (ga s0_24 34 (0 : Int32).toNatClampNeg) (0 : Int32) r27.2 H locs ls (lv_sub hl [1, 2, 0] rfl) hP hD hS h
            · replace h := (if_neg c29).symm.trans h
              refine lv_iconst (v := 0) hx hb dX11_lives_106 (by decide) ?_
              refine lv_goto (tgt := 111) hx hb dX11_lives_107 (by decide) ?_
              exact J111 x23 (0 : Int32) (ga s0_24 34 (0 : Int32).toNatClampNeg) (0 : Int32) r27.2 H locs ls (lv_sub hl [1, 2, 0] rfl) hP hD hS h
          · replace h := (if_pos c26).symm.trans h
            have eo := hst _ (Option.some.inj h).symm
            exact kk90 _ eo.symm H locs ls (lv_sub hl [] rfl) hP hD hS
        · replace h := (if_pos c22).symm.trans h
          have eo := hst _ (Option.some.inj h).symm
          exact kk52 _ eo.symm H locs ls (lv_sub hl [0] rfl) hP hD hS
  obtain ⟨o32, ho32, h⟩ := bd_elim h
  obtain ⟨n32, hn32⟩ := loopF_some ho32
  refine L32 n32 _ o32 hn32 H locs ls (lv_sub hl [1, 0] rfl) hP hD hS (fun o32a eo H locs ls hl hP hD hS => ?_) (fun o32b eo H locs ls hl hP hD hS => ?_) (fun o32c eo H locs ls hl hP hD hS => ?_)
  · subst eo
    rw [Sum.elim_inl] at h
    refine lv_aload_n hx hb dX11_lives_52 rfl (lv_at hl 0 rfl) ?_
    refine va_get (D := D) (ci := 11) (v := .ref (a0 34)) (C := RX11) (T := TX11) (N := 38) hx hb hts hinX11 hown hK hP 0 rfl rfl 34 (by decide) (hts (.fieldLink RX11 59 "KneeBenchModel" "ran" "[I") (List.mem_of_getElem? (i := 3) rfl)) (fun _ h9 => h9) rfl dX11_lives_53 ?_
    refine lv_iconst (v := 3) hx hb dX11_lives_56 (by decide) ?_
    refine lv_iconst (v := 1) hx hb dX11_lives_57 (by decide) ?_
    obtain ⟨s0_30, es, h⟩ := lt_elim h
    refine va_iast hx hb hK hP hD hS 12 1 rfl rfl (inb_in (by decide)) dX11_lives_58 (fun H locs hP hD hS => ?_)
    have hP : va_P D vwCl (flat [WX11 cy h0 a0 s0_30]) H := by rw [es]; exact hP
    have hD : va_D A (flat [WX11 cy h0 a0 s0_30]) := by rw [es]; exact hD
    clear es
    exact hret 59 H locs ls s0_30 (Option.some.inj h) hP hD hS dX11_lives_59
  · subst eo
    rw [Sum.elim_inr, Sum.elim_inl] at h
    exact hret 90 H locs ls o32b (Option.some.inj h) hP hD hS dX11_lives_90
  · subst eo
    rw [Sum.elim_inr, Sum.elim_inr] at h
    exact hret 184 H locs ls o32c (Option.some.inj h) hP hD hS dX11_lives_184
theorem gd_X11_live : wsX11_live.all goodWord = true := by decide +kernel
set_option maxRecDepth 20000 in
theorem ggX11_live_X11_isFrom : GoodIn wsX11_live wsX11_isFrom := goodIn_by gd_X11_live (List.forall_mem_cons.mpr ⟨List.mem_cons_of_mem _ (List.mem_append_left _ (List.mem_append_left _ (List.mem_of_getElem? (i := 9) rfl))), nowords_in⟩)
set_option maxRecDepth 20000 in
theorem gX11_live_X11_isFrom : GoodIn wsX11_live (va_wsS RX11 282 yX11_isFrom wsX11_isFrom) := goodIn_app (goodIn_by gd_X11_live (List.forall_mem_cons.mpr ⟨List.mem_cons_of_mem _ (List.mem_append_left _ (List.mem_append_left _ (List.mem_of_getElem? (i := 6) rfl))), List.forall_mem_cons.mpr ⟨List.mem_cons_of_mem _ (List.mem_append_left _ (List.mem_append_left _ (List.mem_of_getElem? (i := 7) rfl))), List.forall_mem_cons.mpr ⟨List.mem_cons_of_mem _ (List.mem_append_left _ (List.mem_append_left _ (List.mem_of_getElem? (i := 8) rfl))), nowords_in⟩⟩⟩)) ggX11_live_X11_isFrom
set_option maxRecDepth 20000 in
theorem ggX11_live_X11_refuse : GoodIn wsX11_live wsX11_refuse := goodIn_by gd_X11_live (List.forall_mem_cons.mpr ⟨List.mem_cons_of_mem _ (List.mem_append_left _ (List.mem_append_left _ (List.mem_of_getElem? (i := 13) rfl))), List.forall_mem_append.mpr ⟨List.forall_mem_cons.mpr ⟨List.mem_cons_of_mem _ (List.mem_append_left _ (List.mem_append_left _ (List.mem_of_getElem? (i := 14) rfl))), nowords_in⟩, (fun _ h => List.mem_cons_of_mem _ (List.mem_append_right _ (h)))⟩⟩)
set_option maxRecDepth 20000 in
theorem gX11_live_X11_refuse : GoodIn wsX11_live (wsV RX11 75 RX11 yX11_refuse wsX11_refuse) := goodIn_app (goodIn_by gd_X11_live (List.forall_mem_cons.mpr ⟨List.mem_cons_of_mem _ (List.mem_append_left _ (List.mem_append_left _ (List.mem_of_getElem? (i := 10) rfl))), List.forall_mem_cons.mpr ⟨List.mem_cons_of_mem _ (List.mem_append_left _ (List.mem_append_left _ (List.mem_of_getElem? (i := 11) rfl))), List.forall_mem_cons.mpr ⟨List.mem_cons_of_mem _ (List.mem_append_left _ (List.mem_append_left _ (List.mem_of_getElem? (i := 12) rfl))), List.forall_mem_cons.mpr ⟨List.mem_cons_of_mem _ (List.mem_append_left _ (List.mem_append_left _ (List.mem_of_getElem? (i := 8) rfl))), nowords_in⟩⟩⟩⟩)) ggX11_live_X11_refuse
set_option maxRecDepth 20000 in
theorem ggX11_live_X11_lives : GoodIn wsX11_live wsX11_lives := goodIn_by gd_X11_live (List.forall_mem_cons.mpr ⟨List.mem_cons_of_mem _ (List.mem_append_left _ (List.mem_append_left _ (List.mem_of_getElem? (i := 18) rfl))), List.forall_mem_append.mpr ⟨List.forall_mem_append.mpr ⟨List.forall_mem_cons.mpr ⟨List.mem_cons_of_mem _ (List.mem_append_left _ (List.mem_append_left _ (List.mem_of_getElem? (i := 19) rfl))), List.forall_mem_cons.mpr ⟨List.mem_cons_of_mem _ (List.mem_append_left _ (List.mem_append_left _ (List.mem_of_getElem? (i := 5) rfl))), List.forall_mem_cons.mpr ⟨List.mem_cons_of_mem _ (List.mem_append_left _ (List.mem_append_left _ (List.mem_of_getElem? (i := 3) rfl))), List.forall_mem_cons.mpr ⟨List.mem_cons_of_mem _ (List.mem_append_left _ (List.mem_append_left _ (List.mem_of_getElem? (i := 1) rfl))), List.forall_mem_cons.mpr ⟨List.mem_cons_of_mem _ (List.mem_append_left _ (List.mem_append_left _ (List.mem_of_getElem? (i := 20) rfl))), List.forall_mem_cons.mpr ⟨List.mem_cons_of_mem _ (List.mem_append_left _ (List.mem_append_left _ (List.mem_of_getElem? (i := 21) rfl))), List.forall_mem_cons.mpr ⟨List.mem_cons_of_mem _ (List.mem_append_left _ (List.mem_append_left _ (List.mem_of_getElem? (i := 22) rfl))), List.forall_mem_cons.mpr ⟨List.mem_cons_of_mem _ (List.mem_append_left _ (List.mem_append_left _ (List.mem_of_getElem? (i := 23) rfl))), List.forall_mem_cons.mpr ⟨List.mem_cons_of_mem _ (List.mem_append_left _ (List.mem_append_left _ (List.mem_of_getElem? (i := 8) rfl))), List.forall_mem_cons.mpr ⟨List.mem_cons_of_mem _ (List.mem_append_left _ (List.mem_append_right _ (List.mem_append_left _ (List.mem_of_getElem? (i := 0) rfl)))), List.forall_mem_cons.mpr ⟨List.mem_cons_of_mem _ (List.mem_append_left _ (List.mem_append_right _ (List.mem_append_left _ (List.mem_of_getElem? (i := 1) rfl)))), List.forall_mem_cons.mpr ⟨List.mem_cons_of_mem _ (List.mem_append_left _ (List.mem_append_right _ (List.mem_append_left _ (List.mem_of_getElem? (i := 2) rfl)))), List.forall_mem_cons.mpr ⟨List.mem_cons_of_mem _ (List.mem_append_left _ (List.mem_append_right _ (List.mem_append_left _ (List.mem_of_getElem? (i := 3) rfl)))), List.forall_mem_cons.mpr ⟨List.mem_cons_of_mem _ (List.mem_append_left _ (List.mem_append_right _ (List.mem_append_left _ (List.mem_of_getElem? (i := 4) rfl)))), List.forall_mem_cons.mpr ⟨List.mem_cons_of_mem _ (List.mem_append_left _ (List.mem_append_right _ (List.mem_append_left _ (List.mem_of_getElem? (i := 5) rfl)))), List.forall_mem_cons.mpr ⟨List.mem_cons_of_mem _ (List.mem_append_left _ (List.mem_append_right _ (List.mem_append_left _ (List.mem_of_getElem? (i := 6) rfl)))), List.forall_mem_cons.mpr ⟨List.mem_cons_of_mem _ (List.mem_append_left _ (List.mem_append_right _ (List.mem_append_left _ (List.mem_of_getElem? (i := 7) rfl)))), List.forall_mem_cons.mpr ⟨List.mem_cons_of_mem _ (List.mem_append_left _ (List.mem_append_right _ (List.mem_append_left _ (List.mem_of_getElem? (i := 8) rfl)))), List.forall_mem_cons.mpr ⟨List.mem_cons_of_mem _ (List.mem_append_left _ (List.mem_append_right _ (List.mem_append_left _ (List.mem_of_getElem? (i := 9) rfl)))), List.forall_mem_cons.mpr ⟨List.mem_cons_of_mem _ (List.mem_append_left _ (List.mem_append_right _ (List.mem_append_left _ (List.mem_of_getElem? (i := 10) rfl)))), List.forall_mem_cons.mpr ⟨List.mem_cons_of_mem _ (List.mem_append_left _ (List.mem_append_right _ (List.mem_append_left _ (List.mem_of_getElem? (i := 11) rfl)))), List.forall_mem_cons.mpr ⟨List.mem_cons_of_mem _ (List.mem_append_left _ (List.mem_append_right _ (List.mem_append_left _ (List.mem_of_getElem? (i := 12) rfl)))), List.forall_mem_cons.mpr ⟨List.mem_cons_of_mem _ (List.mem_append_left _ (List.mem_append_right _ (List.mem_append_left _ (List.mem_of_getElem? (i := 13) rfl)))), List.forall_mem_cons.mpr ⟨List.mem_cons_of_mem _ (List.mem_append_left _ (List.mem_append_right _ (List.mem_append_left _ (List.mem_of_getElem? (i := 14) rfl)))), nowords_in⟩⟩⟩⟩⟩⟩⟩⟩⟩⟩⟩⟩⟩⟩⟩⟩⟩⟩⟩⟩⟩⟩⟩⟩, List.forall_mem_append.mpr ⟨List.forall_mem_cons.mpr ⟨List.mem_cons_of_mem _ (List.mem_append_left _ (List.mem_append_right _ (List.mem_append_left _ (List.mem_of_getElem? (i := 15) rfl)))), List.forall_mem_cons.mpr ⟨List.mem_cons_of_mem _ (List.mem_append_left _ (List.mem_append_right _ (List.mem_append_left _ (List.mem_of_getElem? (i := 16) rfl)))), List.forall_mem_cons.mpr ⟨List.mem_cons_of_mem _ (List.mem_append_left _ (List.mem_append_right _ (List.mem_append_left _ (List.mem_of_getElem? (i := 17) rfl)))), List.forall_mem_cons.mpr ⟨List.mem_cons_of_mem _ (List.mem_append_left _ (List.mem_append_right _ (List.mem_append_left _ (List.mem_of_getElem? (i := 18) rfl)))), List.forall_mem_cons.mpr ⟨List.mem_cons_of_mem _ (List.mem_append_left _ (List.mem_append_right _ (List.mem_append_left _ (List.mem_of_getElem? (i := 19) rfl)))), List.forall_mem_cons.mpr ⟨List.mem_cons_of_mem _ (List.mem_append_left _ (List.mem_append_right _ (List.mem_append_left _ (List.mem_of_getElem? (i := 20) rfl)))), List.forall_mem_cons.mpr ⟨List.mem_cons_of_mem _ (List.mem_append_left _ (List.mem_append_right _ (List.mem_append_left _ (List.mem_of_getElem? (i := 21) rfl)))), List.forall_mem_cons.mpr ⟨List.mem_cons_of_mem _ (List.mem_append_left _ (List.mem_append_right _ (List.mem_append_left _ (List.mem_of_getElem? (i := 22) rfl)))), List.forall_mem_cons.mpr ⟨List.mem_cons_of_mem _ (List.mem_append_left _ (List.mem_append_right _ (List.mem_append_left _ (List.mem_of_getElem? (i := 23) rfl)))), List.forall_mem_cons.mpr ⟨List.mem_cons_of_mem _ (List.mem_append_left _ (List.mem_append_right _ (List.mem_append_right _ (List.mem_append_left _ (List.mem_of_getElem? (i := 0) rfl))))), List.forall_mem_cons.mpr ⟨List.mem_cons_of_mem _ (List.mem_append_left _ (List.mem_append_right _ (List.mem_append_right _ (List.mem_append_left _ (List.mem_of_getElem? (i := 1) rfl))))), List.forall_mem_cons.mpr ⟨List.mem_cons_of_mem _ (List.mem_append_left _ (List.mem_append_right _ (List.mem_append_right _ (List.mem_append_left _ (List.mem_of_getElem? (i := 2) rfl))))), List.forall_mem_cons.mpr ⟨List.mem_cons_of_mem _ (List.mem_append_left _ (List.mem_append_right _ (List.mem_append_right _ (List.mem_append_left _ (List.mem_of_getElem? (i := 3) rfl))))), List.forall_mem_cons.mpr ⟨List.mem_cons_of_mem _ (List.mem_append_left _ (List.mem_append_right _ (List.mem_append_right _ (List.mem_append_left _ (List.mem_of_getElem? (i := 4) rfl))))), List.forall_mem_cons.mpr ⟨List.mem_cons_of_mem _ (List.mem_append_left _ (List.mem_append_right _ (List.mem_append_right _ (List.mem_append_left _ (List.mem_of_getElem? (i := 5) rfl))))), List.forall_mem_cons.mpr ⟨List.mem_cons_of_mem _ (List.mem_append_left _ (List.mem_append_right _ (List.mem_append_right _ (List.mem_append_left _ (List.mem_of_getElem? (i := 6) rfl))))), List.forall_mem_cons.mpr ⟨List.mem_cons_of_mem _ (List.mem_append_left _ (List.mem_append_right _ (List.mem_append_right _ (List.mem_append_left _ (List.mem_of_getElem? (i := 7) rfl))))), List.forall_mem_cons.mpr ⟨List.mem_cons_of_mem _ (List.mem_append_left _ (List.mem_append_right _ (List.mem_append_right _ (List.mem_append_left _ (List.mem_of_getElem? (i := 8) rfl))))), List.forall_mem_cons.mpr ⟨List.mem_cons_of_mem _ (List.mem_append_left _ (List.mem_append_right _ (List.mem_append_right _ (List.mem_append_left _ (List.mem_of_getElem? (i := 9) rfl))))), List.forall_mem_cons.mpr ⟨List.mem_cons_of_mem _ (List.mem_append_left _ (List.mem_append_right _ (List.mem_append_right _ (List.mem_append_left _ (List.mem_of_getElem? (i := 10) rfl))))), List.forall_mem_cons.mpr ⟨List.mem_cons_of_mem _ (List.mem_append_left _ (List.mem_append_right _ (List.mem_append_right _ (List.mem_append_left _ (List.mem_of_getElem? (i := 11) rfl))))), List.forall_mem_cons.mpr ⟨List.mem_cons_of_mem _ (List.mem_append_left _ (List.mem_append_right _ (List.mem_append_right _ (List.mem_append_left _ (List.mem_of_getElem? (i := 12) rfl))))), List.forall_mem_cons.mpr ⟨List.mem_cons_of_mem _ (List.mem_append_left _ (List.mem_append_right _ (List.mem_append_right _ (List.mem_append_left _ (List.mem_of_getElem? (i := 13) rfl))))), List.forall_mem_cons.mpr ⟨List.mem_cons_of_mem _ (List.mem_append_left _ (List.mem_append_right _ (List.mem_append_right _ (List.mem_append_left _ (List.mem_of_getElem? (i := 14) rfl))))), nowords_in⟩⟩⟩⟩⟩⟩⟩⟩⟩⟩⟩⟩⟩⟩⟩⟩⟩⟩⟩⟩⟩⟩⟩⟩, List.forall_mem_append.mpr ⟨List.forall_mem_cons.mpr ⟨List.mem_cons_of_mem _ (List.mem_append_left _ (List.mem_append_right _ (List.mem_append_right _ (List.mem_append_left _ (List.mem_of_getElem? (i := 15) rfl))))), List.forall_mem_cons.mpr ⟨List.mem_cons_of_mem _ (List.mem_append_left _ (List.mem_append_right _ (List.mem_append_right _ (List.mem_append_left _ (List.mem_of_getElem? (i := 16) rfl))))), List.forall_mem_cons.mpr ⟨List.mem_cons_of_mem _ (List.mem_append_left _ (List.mem_append_right _ (List.mem_append_right _ (List.mem_append_left _ (List.mem_of_getElem? (i := 17) rfl))))), List.forall_mem_cons.mpr ⟨List.mem_cons_of_mem _ (List.mem_append_left _ (List.mem_append_right _ (List.mem_append_right _ (List.mem_append_left _ (List.mem_of_getElem? (i := 18) rfl))))), List.forall_mem_cons.mpr ⟨List.mem_cons_of_mem _ (List.mem_append_left _ (List.mem_append_right _ (List.mem_append_right _ (List.mem_append_left _ (List.mem_of_getElem? (i := 19) rfl))))), List.forall_mem_cons.mpr ⟨List.mem_cons_of_mem _ (List.mem_append_left _ (List.mem_append_right _ (List.mem_append_right _ (List.mem_append_left _ (List.mem_of_getElem? (i := 20) rfl))))), List.forall_mem_cons.mpr ⟨List.mem_cons_of_mem _ (List.mem_append_left _ (List.mem_append_right _ (List.mem_append_right _ (List.mem_append_left _ (List.mem_of_getElem? (i := 21) rfl))))), List.forall_mem_cons.mpr ⟨List.mem_cons_of_mem _ (List.mem_append_left _ (List.mem_append_right _ (List.mem_append_right _ (List.mem_append_left _ (List.mem_of_getElem? (i := 22) rfl))))), List.forall_mem_cons.mpr ⟨List.mem_cons_of_mem _ (List.mem_append_left _ (List.mem_append_right _ (List.mem_append_right _ (List.mem_append_left _ (List.mem_of_getElem? (i := 23) rfl))))), List.forall_mem_cons.mpr ⟨List.mem_cons_of_mem _ (List.mem_append_left _ (List.mem_append_right _ (List.mem_append_right _ (List.mem_append_right _ (List.mem_append_left _ (List.mem_of_getElem? (i := 0) rfl)))))), List.forall_mem_cons.mpr ⟨List.mem_cons_of_mem _ (List.mem_append_left _ (List.mem_append_right _ (List.mem_append_right _ (List.mem_append_right _ (List.mem_append_left _ (List.mem_of_getElem? (i := 1) rfl)))))), List.forall_mem_cons.mpr ⟨List.mem_cons_of_mem _ (List.mem_append_left _ (List.mem_append_right _ (List.mem_append_right _ (List.mem_append_right _ (List.mem_append_left _ (List.mem_of_getElem? (i := 2) rfl)))))), List.forall_mem_cons.mpr ⟨List.mem_cons_of_mem _ (List.mem_append_left _ (List.mem_append_right _ (List.mem_append_right _ (List.mem_append_right _ (List.mem_append_left _ (List.mem_of_getElem? (i := 3) rfl)))))), List.forall_mem_cons.mpr ⟨List.mem_cons_of_mem _ (List.mem_append_left _ (List.mem_append_right _ (List.mem_append_right _ (List.mem_append_right _ (List.mem_append_left _ (List.mem_of_getElem? (i := 4) rfl)))))), List.forall_mem_cons.mpr ⟨List.mem_cons_of_mem _ (List.mem_append_left _ (List.mem_append_right _ (List.mem_append_right _ (List.mem_append_right _ (List.mem_append_left _ (List.mem_of_getElem? (i := 5) rfl)))))), List.forall_mem_cons.mpr ⟨List.mem_cons_of_mem _ (List.mem_append_left _ (List.mem_append_right _ (List.mem_append_right _ (List.mem_append_right _ (List.mem_append_left _ (List.mem_of_getElem? (i := 6) rfl)))))), List.forall_mem_cons.mpr ⟨List.mem_cons_of_mem _ (List.mem_append_left _ (List.mem_append_right _ (List.mem_append_right _ (List.mem_append_right _ (List.mem_append_left _ (List.mem_of_getElem? (i := 7) rfl)))))), List.forall_mem_cons.mpr ⟨List.mem_cons_of_mem _ (List.mem_append_left _ (List.mem_append_right _ (List.mem_append_right _ (List.mem_append_right _ (List.mem_append_left _ (List.mem_of_getElem? (i := 8) rfl)))))), List.forall_mem_cons.mpr ⟨List.mem_cons_of_mem _ (List.mem_append_left _ (List.mem_append_right _ (List.mem_append_right _ (List.mem_append_right _ (List.mem_append_left _ (List.mem_of_getElem? (i := 9) rfl)))))), List.forall_mem_cons.mpr ⟨List.mem_cons_of_mem _ (List.mem_append_left _ (List.mem_append_right _ (List.mem_append_right _ (List.mem_append_right _ (List.mem_append_left _ (List.mem_of_getElem? (i := 10) rfl)))))), List.forall_mem_cons.mpr ⟨List.mem_cons_of_mem _ (List.mem_append_left _ (List.mem_append_right _ (List.mem_append_right _ (List.mem_append_right _ (List.mem_append_left _ (List.mem_of_getElem? (i := 11) rfl)))))), List.forall_mem_cons.mpr ⟨List.mem_cons_of_mem _ (List.mem_append_left _ (List.mem_append_right _ (List.mem_append_right _ (List.mem_append_right _ (List.mem_append_left _ (List.mem_of_getElem? (i := 12) rfl)))))), List.forall_mem_cons.mpr ⟨List.mem_cons_of_mem _ (List.mem_append_left _ (List.mem_append_right _ (List.mem_append_right _ (List.mem_append_right _ (List.mem_append_left _ (List.mem_of_getElem? (i := 13) rfl)))))), List.forall_mem_cons.mpr ⟨List.mem_cons_of_mem _ (List.mem_append_left _ (List.mem_append_right _ (List.mem_append_right _ (List.mem_append_right _ (List.mem_append_left _ (List.mem_of_getElem? (i := 14) rfl)))))), nowords_in⟩⟩⟩⟩⟩⟩⟩⟩⟩⟩⟩⟩⟩⟩⟩⟩⟩⟩⟩⟩⟩⟩⟩⟩, List.forall_mem_cons.mpr ⟨List.mem_cons_of_mem _ (List.mem_append_left _ (List.mem_append_right _ (List.mem_append_right _ (List.mem_append_right _ (List.mem_append_left _ (List.mem_of_getElem? (i := 15) rfl)))))), List.forall_mem_cons.mpr ⟨List.mem_cons_of_mem _ (List.mem_append_left _ (List.mem_append_right _ (List.mem_append_right _ (List.mem_append_right _ (List.mem_append_left _ (List.mem_of_getElem? (i := 16) rfl)))))), List.forall_mem_cons.mpr ⟨List.mem_cons_of_mem _ (List.mem_append_left _ (List.mem_append_right _ (List.mem_append_right _ (List.mem_append_right _ (List.mem_append_left _ (List.mem_of_getElem? (i := 17) rfl)))))), List.forall_mem_cons.mpr ⟨List.mem_cons_of_mem _ (List.mem_append_left _ (List.mem_append_right _ (List.mem_append_right _ (List.mem_append_right _ (List.mem_append_left _ (List.mem_of_getElem? (i := 18) rfl)))))), List.forall_mem_cons.mpr ⟨List.mem_cons_of_mem _ (List.mem_append_left _ (List.mem_append_right _ (List.mem_append_right _ (List.mem_append_right _ (List.mem_append_left _ (List.mem_of_getElem? (i := 19) rfl)))))), List.forall_mem_cons.mpr ⟨List.mem_cons_of_mem _ (List.mem_append_left _ (List.mem_append_right _ (List.mem_append_right _ (List.mem_append_right _ (List.mem_append_left _ (List.mem_of_getElem? (i := 20) rfl)))))), List.forall_mem_cons.mpr ⟨List.mem_cons_of_mem _ (List.mem_append_left _ (List.mem_append_right _ (List.mem_append_right _ (List.mem_append_right _ (List.mem_append_left _ (List.mem_of_getElem? (i := 21) rfl)))))), List.forall_mem_cons.mpr ⟨List.mem_cons_of_mem _ (List.mem_append_left _ (List.mem_append_right _ (List.mem_append_right _ (List.mem_append_right _ (List.mem_append_left _ (List.mem_of_getElem? (i := 22) rfl)))))), List.forall_mem_cons.mpr ⟨List.mem_cons_of_mem _ (List.mem_append_left _ (List.mem_append_right _ (List.mem_append_right _ (List.mem_append_right _ (List.mem_append_left _ (List.mem_of_getElem? (i := 23) rfl)))))), List.forall_mem_cons.mpr ⟨List.mem_cons_of_mem _ (List.mem_append_left _ (List.mem_append_right _ (List.mem_append_right _ (List.mem_append_right _ (List.mem_append_right _ (List.mem_of_getElem? (i := 0) rfl)))))), List.forall_mem_cons.mpr ⟨List.mem_cons_of_mem _ (List.mem_append_left _ (List.mem_append_right _ (List.mem_append_right _ (List.mem_append_right _ (List.mem_append_right _ (List.mem_of_getElem? (i := 1) rfl)))))), List.forall_mem_cons.mpr ⟨List.mem_cons_of_mem _ (List.mem_append_left _ (List.mem_append_right _ (List.mem_append_right _ (List.mem_append_right _ (List.mem_append_right _ (List.mem_of_getElem? (i := 2) rfl)))))), List.forall_mem_cons.mpr ⟨List.mem_cons_of_mem _ (List.mem_append_left _ (List.mem_append_right _ (List.mem_append_right _ (List.mem_append_right _ (List.mem_append_right _ (List.mem_of_getElem? (i := 3) rfl)))))), List.forall_mem_cons.mpr ⟨List.mem_cons_of_mem _ (List.mem_append_left _ (List.mem_append_right _ (List.mem_append_right _ (List.mem_append_right _ (List.mem_append_right _ (List.mem_of_getElem? (i := 4) rfl)))))), List.forall_mem_cons.mpr ⟨List.mem_cons_of_mem _ (List.mem_append_left _ (List.mem_append_right _ (List.mem_append_right _ (List.mem_append_right _ (List.mem_append_right _ (List.mem_of_getElem? (i := 5) rfl)))))), nowords_in⟩⟩⟩⟩⟩⟩⟩⟩⟩⟩⟩⟩⟩⟩⟩⟩⟩⟩, (fun _ h => List.mem_cons_of_mem _ (List.mem_append_right _ (h)))⟩⟩)
set_option maxRecDepth 20000 in
theorem gX11_live_X11_lives : GoodIn wsX11_live (wsV RX11 410 RX11 yX11_lives wsX11_lives) := goodIn_app (goodIn_by gd_X11_live (List.forall_mem_cons.mpr ⟨List.mem_cons_of_mem _ (List.mem_append_left _ (List.mem_append_left _ (List.mem_of_getElem? (i := 15) rfl))), List.forall_mem_cons.mpr ⟨List.mem_cons_of_mem _ (List.mem_append_left _ (List.mem_append_left _ (List.mem_of_getElem? (i := 16) rfl))), List.forall_mem_cons.mpr ⟨List.mem_cons_of_mem _ (List.mem_append_left _ (List.mem_append_left _ (List.mem_of_getElem? (i := 17) rfl))), List.forall_mem_cons.mpr ⟨List.mem_cons_of_mem _ (List.mem_append_left _ (List.mem_append_left _ (List.mem_of_getElem? (i := 8) rfl))), nowords_in⟩⟩⟩⟩)) ggX11_live_X11_lives
set_option maxRecDepth 20000 in
theorem ggX11_live_X11_gives : GoodIn wsX11_live wsX11_gives := goodIn_by gd_X11_live (List.forall_mem_cons.mpr ⟨List.mem_cons_of_mem _ (List.mem_append_left _ (List.mem_append_right _ (List.mem_append_right _ (List.mem_append_right _ (List.mem_append_right _ (List.mem_of_getElem? (i := 9) rfl)))))), List.forall_mem_append.mpr ⟨List.forall_mem_cons.mpr ⟨List.mem_cons_of_mem _ (List.mem_append_left _ (List.mem_append_left _ (List.mem_of_getElem? (i := 14) rfl))), nowords_in⟩, (fun _ h => List.mem_cons_of_mem _ (List.mem_append_right _ (h)))⟩⟩)
set_option maxRecDepth 20000 in
theorem gX11_live_X11_gives : GoodIn wsX11_live (wsV RX11 79 RX11 yX11_gives wsX11_gives) := goodIn_app (goodIn_by gd_X11_live (List.forall_mem_cons.mpr ⟨List.mem_cons_of_mem _ (List.mem_append_left _ (List.mem_append_right _ (List.mem_append_right _ (List.mem_append_right _ (List.mem_append_right _ (List.mem_of_getElem? (i := 6) rfl)))))), List.forall_mem_cons.mpr ⟨List.mem_cons_of_mem _ (List.mem_append_left _ (List.mem_append_right _ (List.mem_append_right _ (List.mem_append_right _ (List.mem_append_right _ (List.mem_of_getElem? (i := 7) rfl)))))), List.forall_mem_cons.mpr ⟨List.mem_cons_of_mem _ (List.mem_append_left _ (List.mem_append_right _ (List.mem_append_right _ (List.mem_append_right _ (List.mem_append_right _ (List.mem_of_getElem? (i := 8) rfl)))))), List.forall_mem_cons.mpr ⟨List.mem_cons_of_mem _ (List.mem_append_left _ (List.mem_append_left _ (List.mem_of_getElem? (i := 8) rfl))), nowords_in⟩⟩⟩⟩)) ggX11_live_X11_gives
theorem dX11_live_0 : decode cX11_live 0 = .ok (.iload_n 1, 1) := by decide +kernel
theorem dX11_live_1 : decode cX11_live 1 = .ok (.i2l, 1) := by decide +kernel
theorem dX11_live_2 : decode cX11_live 2 = .ok (.lconst 0, 1) := by decide +kernel
theorem dX11_live_3 : decode cX11_live 3 = .ok (.ldc2_w 280, 3) := by decide +kernel
theorem dX11_live_6 : decode cX11_live 6 = .ok (.invokestatic 282, 3) := by decide +kernel
theorem dX11_live_9 : decode cX11_live 9 = .ok (.ifCond .ne 9, 3) := by decide +kernel
theorem dX11_live_12 : decode cX11_live 12 = .ok (.aload_n 0, 1) := by decide +kernel
theorem dX11_live_13 : decode cX11_live 13 = .ok (.iconst 1, 1) := by decide +kernel
theorem dX11_live_14 : decode cX11_live 14 = .ok (.invokevirtual 75, 3) := by decide +kernel
theorem dX11_live_17 : decode cX11_live 17 = .ok (.ireturn, 1) := by decide +kernel
theorem dX11_live_18 : decode cX11_live 18 = .ok (.aload_n 0, 1) := by decide +kernel
theorem dX11_live_19 : decode cX11_live 19 = .ok (.getfield 7, 3) := by decide +kernel
theorem dX11_live_22 : decode cX11_live 22 = .ok (.iconst 3, 1) := by decide +kernel
theorem dX11_live_23 : decode cX11_live 23 = .ok (.iaload, 1) := by decide +kernel
theorem dX11_live_24 : decode cX11_live 24 = .ok (.iconst (-1), 1) := by decide +kernel
theorem dX11_live_25 : decode cX11_live 25 = .ok (.if_icmp .ne 10, 3) := by decide +kernel
theorem dX11_live_28 : decode cX11_live 28 = .ok (.aload_n 0, 1) := by decide +kernel
theorem dX11_live_29 : decode cX11_live 29 = .ok (.bipush 6, 2) := by decide +kernel
theorem dX11_live_31 : decode cX11_live 31 = .ok (.invokevirtual 75, 3) := by decide +kernel
theorem dX11_live_34 : decode cX11_live 34 = .ok (.ireturn, 1) := by decide +kernel
theorem dX11_live_35 : decode cX11_live 35 = .ok (.aload_n 0, 1) := by decide +kernel
theorem dX11_live_36 : decode cX11_live 36 = .ok (.iload_n 1, 1) := by decide +kernel
theorem dX11_live_37 : decode cX11_live 37 = .ok (.invokevirtual 410, 3) := by decide +kernel
theorem dX11_live_40 : decode cX11_live 40 = .ok (.iconst 0, 1) := by decide +kernel
theorem dX11_live_41 : decode cX11_live 41 = .ok (.istore_n 2, 1) := by decide +kernel
theorem dX11_live_42 : decode cX11_live 42 = .ok (.iload_n 2, 1) := by decide +kernel
theorem dX11_live_43 : decode cX11_live 43 = .ok (.iconst 4, 1) := by decide +kernel
theorem dX11_live_44 : decode cX11_live 44 = .ok (.if_icmp .ge 21, 3) := by decide +kernel
theorem dX11_live_47 : decode cX11_live 47 = .ok (.aload_n 0, 1) := by decide +kernel
theorem dX11_live_48 : decode cX11_live 48 = .ok (.getfield 62, 3) := by decide +kernel
theorem dX11_live_51 : decode cX11_live 51 = .ok (.iload_n 2, 1) := by decide +kernel
theorem dX11_live_52 : decode cX11_live 52 = .ok (.aload_n 0, 1) := by decide +kernel
theorem dX11_live_53 : decode cX11_live 53 = .ok (.getfield 59, 3) := by decide +kernel
theorem dX11_live_56 : decode cX11_live 56 = .ok (.iload_n 2, 1) := by decide +kernel
theorem dX11_live_57 : decode cX11_live 57 = .ok (.iaload, 1) := by decide +kernel
theorem dX11_live_58 : decode cX11_live 58 = .ok (.iastore, 1) := by decide +kernel
theorem dX11_live_59 : decode cX11_live 59 = .ok (.iinc 2 1, 3) := by decide +kernel
theorem dX11_live_62 : decode cX11_live 62 = .ok (.goto (-20), 3) := by decide +kernel
theorem dX11_live_65 : decode cX11_live 65 = .ok (.aload_n 0, 1) := by decide +kernel
theorem dX11_live_66 : decode cX11_live 66 = .ok (.iconst 1, 1) := by decide +kernel
theorem dX11_live_67 : decode cX11_live 67 = .ok (.putfield 413, 3) := by decide +kernel
theorem dX11_live_70 : decode cX11_live 70 = .ok (.aload_n 0, 1) := by decide +kernel
theorem dX11_live_71 : decode cX11_live 71 = .ok (.aload_n 0, 1) := by decide +kernel
theorem dX11_live_72 : decode cX11_live 72 = .ok (.getfield 398, 3) := by decide +kernel
theorem dX11_live_75 : decode cX11_live 75 = .ok (.invokevirtual 79, 3) := by decide +kernel
theorem dX11_live_78 : decode cX11_live 78 = .ok (.ireturn, 1) := by decide +kernel
abbrev rmX11_live : Room := { frames := 7, cells := 0, slots := 0, locals := 158 }
set_option maxHeartbeats 4000000 in
set_option maxRecDepth 100000 in
theorem kX11_live (l : Launch) (D : va_G) (cy : Nat → ClassId) (h0 : Nat) (a0 : Nat → Nat) (s0 : Rc) (p1 : Int32) (res : Int32 × Rc) (h : fX11_live p1 s0 = some res) : CI l D cy yX11_live wsX11_live rmX11_live [.ref h0, .int p1] (flat [WX11 cy h0 a0 s0]) (flat [WX11 cy h0 a0 res.2]) res.1 := by
  refine CI.of (cc := cX11_live) (maxL := 3) (by decide) rfl (Nat.le_of_ble_eq_true rfl) ?_
  intro p e s m args below meth c A QQ ls E hr
  obtain ⟨hx, hb, hml, hown, hts, hK, hN, hP, hD, hA, hl⟩ := E
  have hret : ∀ (pc : Nat) (H : Heap) (locs : List Loc) (ls : Array Slot) (u : Int32 × Rc), u = res → va_P D vwCl (flat [WX11 cy h0 a0 u.2]) H → va_D A (flat [WX11 cy h0 a0 u.2]) → va_S A s.heap H locs → decode cX11_live pc = .ok (.ireturn, 1) → W p l e rmX11_live s m args below meth c H locs 0 0 QQ (F0 m pc ls [.int u.1]) := by
    intro pc H locs ls u hu hP hD hS hd; subst hu; exact hr pc H locs ls _ rfl hP hD hS hd
  clear hr
  have hl : lv_has ls 3 [(0, .ref h0), (1, .int p1)] := hl
  have hinX11 : ∀ w ∈ wsX110, w ∈ wsX11_live := fun _ h => List.mem_cons_of_mem _ (List.mem_append_right _ h)
  unfold fX11_live at h
  suffices key : ∀ (H : Heap) (locs : List Loc), va_P D vwCl (flat [WX11 cy h0 a0 s0]) H → va_S A s.heap H locs → W p l e rmX11_live s m args below meth c H locs 0 0 QQ (F0 m 0 ls []) from key _ _ hP va_S.rf
  clear hP
  intro H locs hP hS
  refine lv_iload_n hx hb dX11_live_0 rfl (lv_at hl 1 rfl) ?_
  refine lv_i2l hx hb dX11_live_1 rfl ?_
  refine lv_lconst (v := 0) hx hb dX11_live_2 (by decide) ?_
  refine lv_ldc2 (v := 9999) hx hb hown (hts (.constantLong RX11 280 (9999)) (List.mem_of_getElem? (i := 1) rfl)) dX11_live_3 ?_
  refine ca_z (w' := [WX11 cy h0 a0 s0]) (rn_S (As := [.long p1.toInt64, .long (0 : Int64), .long (9999 : Int64)]) (rest := []) ⟨hx, hb, hml, hown, hts⟩ (kX11_isFrom l D cy p1.toInt64 (0 : Int64) (9999 : Int64) _ rfl H.size) (va_cwS 3 hts gX11_live_X11_isFrom rfl rfl rfl (by decide +kernel) ⟨Nat.le_of_ble_eq_true rfl, Nat.le_of_ble_eq_true rfl⟩) hK hN hP hD [] rfl rfl rfl hl.1 rfl (Nat.le_of_ble_eq_true rfl) dX11_live_6 ⟨Nat.le_refl 0, Nat.le_refl 0⟩) hP hD hS hA [] ⟨rfl, rfl, rfl, rfl⟩ (fun b1 H locs hP hD hS => ?_)
  refine lv_if_ne (tgt := 18) hx hb dX11_live_9 (by decide) (fun c2 => ?_) (fun c2 => ?_)
  · replace h := (if_neg c2).symm.trans h
    refine lv_aload_n hx hb dX11_live_18 rfl (lv_at hl 0 rfl) ?_
    refine va_get (D := D) (ci := 11) (v := .ref (a0 0)) (C := RX11) (T := TX11) (N := 38) hx hb hts hinX11 hown hK hP 0 rfl rfl 0 (by decide) (hts (.fieldLink RX11 7 "KneeBenchModel" "at" "[I") (List.mem_of_getElem? (i := 2) rfl)) (fun _ h9 => h9) rfl dX11_live_19 ?_
    refine lv_iconst (v := 3) hx hb dX11_live_22 (by decide) ?_
    refine va_iald hx hb hK hP 1 1 rfl rfl (inb_in (by decide)) dX11_live_23 ?_
    refine lv_iconst (v := -1) hx hb dX11_live_24 (by decide) ?_
    refine lv_icmp_ne (tgt := 35) hx hb dX11_live_25 (by decide) (fun c3 => ?_) (fun c3 => ?_)
    · replace h := (if_neg c3).symm.trans h
      refine lv_aload_n hx hb dX11_live_35 rfl (lv_at hl 0 rfl) ?_
      refine lv_iload_n hx hb dX11_live_36 rfl (lv_at hl 1 rfl) ?_
      obtain ⟨r4, hr4, h⟩ := bd_elim h
      refine ca_v (w' := [WX11 cy h0 a0 r4]) (rn_V (As := [.int p1]) (rest := []) ⟨hx, hb, hml, hown, hts⟩ (kX11_lives l D cy h0 a0 s0 p1 r4 hr4 H.size) (cwV 1 hts gX11_live_X11_lives rfl rfl rfl (by decide +kernel) ⟨Nat.le_of_ble_eq_true rfl, Nat.le_of_ble_eq_true rfl⟩) hK hN hP hD [0] rfl rfl (ci := 11) (q0 := 0) rfl rfl rfl rfl hl.1 rfl (Nat.le_of_ble_eq_true rfl) dX11_live_37 ⟨Nat.le_refl 0, Nat.le_refl 0⟩) hP hD hS hA [0] ⟨rfl, rfl, rfl, rfl⟩ (fun H locs hP hD hS => ?_)
      refine lv_iconst (v := 0) hx hb dX11_live_40 (by decide) ?_
      refine lv_istore_n (lv' := [(2, .int (0 : Int32)), (0, .ref h0), (1, .int p1)]) hx hb dX11_live_41 rfl hl (by decide) rfl (fun ls hl => ?_)
      have L42 : ∀ (n : Nat) (q42 : Int32 × Rc) (o : Rc), loopO (fX11_live_L42) n q42 = some o → ∀ (H : Heap) (locs : List Loc) (ls : Array Slot), lv_has ls 3 [(0, .ref h0), (2, .int q42.1)] → va_P D vwCl (flat [WX11 cy h0 a0 q42.2]) H → va_D A (flat [WX11 cy h0 a0 q42.2]) → va_S A s.heap H locs → ∀ (kk65 : ∀ (H : Heap) (locs : List Loc) (ls : Array Slot), lv_has ls 3 [(0, .ref h0)] → va_P D vwCl (flat [WX11 cy h0 a0 o]) H → va_D A (flat [WX11 cy h0 a0 o]) → va_S A s.heap H locs → W p l e rmX11_live s m args below meth c H locs 0 0 QQ (F0 m 65 ls [])), W p l e rmX11_live s m args below meth c H locs 0 0 QQ (F0 m 42 ls []) := by
        intro n
        induction n with
        | zero => intro q42 o h; exact absurd h (by rw [loopO_zero]; intro z; cases z)
        | succ n ih =>
          intro q42 o h H locs ls hl hP hD hS kk65
          obtain ⟨w, h, hgo, hst⟩ := loopO_elim h
          unfold fX11_live_L42 at h
          refine lv_iload_n hx hb dX11_live_42 rfl (lv_at hl 1 rfl) ?_
          refine lv_iconst (v := 4) hx hb dX11_live_43 (by decide) ?_
          refine lv_icmp_ge (tgt := 65) hx hb dX11_live_44 (by decide) (fun c5 => ?_) (fun c5 => ?_)
          · replace h := (if_pos c5).symm.trans h
            have eo := hst _ (Option.some.inj h).symm
            subst eo
            exact kk65 H locs ls (lv_sub hl [0] rfl) hP hD hS
          · replace h := (if_neg c5).symm.trans h
            refine lv_aload_n hx hb dX11_live_47 rfl (lv_at hl 0 rfl) ?_
            refine va_get (D := D) (ci := 11) (v := .ref (a0 35)) (C := RX11) (T := TX11) (N := 38) hx hb hts hinX11 hown hK hP 0 rfl rfl 35 (by decide) (hts (.fieldLink RX11 62 "KneeBenchModel" "told0" "[I") (List.mem_of_getElem? (i := 3) rfl)) (fun _ h9 => h9) rfl dX11_live_48 ?_
            refine lv_iload_n hx hb dX11_live_51 rfl (lv_at hl 1 rfl) ?_
            refine lv_aload_n hx hb dX11_live_52 rfl (lv_at hl 0 rfl) ?_
            refine va_get (D := D) (ci := 11) (v := .ref (a0 34)) (C := RX11) (T := TX11) (N := 38) hx hb hts hinX11 hown hK hP 0 rfl rfl 34 (by decide) (hts (.fieldLink RX11 59 "KneeBenchModel" "ran" "[I") (List.mem_of_getElem? (i := 4) rfl)) (fun _ h9 => h9) rfl dX11_live_53 ?_
            refine lv_iload_n hx hb dX11_live_56 rfl (lv_at hl 1 rfl) ?_
            obtain ⟨g6, h⟩ := gd_elim h
            refine va_iald hx hb hK hP 12 1 rfl rfl (inb_in g6) dX11_live_57 ?_
            obtain ⟨s0_7, es, h⟩ := lt_elim h
            refine va_iast hx hb hK hP hD hS 13 1 rfl rfl (inb_in g6) dX11_live_58 (fun H locs hP hD hS => ?_)
            have hP : va_P D vwCl (flat [WX11 cy h0 a0 s0_7]) H := by rw [es]; exact hP
            have hD : va_D A (flat [WX11 cy h0 a0 s0_7]) := by rw [es]; exact hD
            clear es
            refine lv_iinc (v := (q42.1 + (1 : Int32))) (lv' := [(2, .int (q42.1 + (1 : Int32))), (0, .ref h0)]) hx hb dX11_live_59 hl (k := 1) rfl rfl (by decide) rfl (fun ls hl => ?_)
            refine lv_goto (tgt := 42) hx hb dX11_live_62 (by decide) ?_
            exact ih _ o (hgo _ (Option.some.inj h).symm) H locs ls (lv_sub hl [1, 0] rfl) hP hD hS kk65
      obtain ⟨o42, ho42, h⟩ := bd_elim h
      obtain ⟨n42, hn42⟩ := loopF_some ho42
      refine L42 n42 _ o42 hn42 H locs ls (lv_sub hl [1, 0] rfl) hP hD hS (fun H locs ls hl hP hD hS => ?_)
      refine lv_aload_n hx hb dX11_live_65 rfl (lv_at hl 0 rfl) ?_
      refine lv_iconst (v := 1) hx hb dX11_live_66 (by decide) ?_
      obtain ⟨s0_8, es, h⟩ := lt_elim h
      refine va_put (D := D) (ci := 11) (v := .int (1 : Int32)) (ty := .boolean) (C := RX11) (T := TX11) (N := 38) hx hb hts hinX11 tyX11 tyX11_ok nmX11 hown hK hP hD hS 0 rfl rfl 36 (by decide) (hts (.fieldLink RX11 413 "KneeBenchModel" "isTold" "Z") (List.mem_of_getElem? (i := 5) rfl)) (fun _ h9 => h9) rfl (by decide +kernel) (isb_nar (show isb (1 : Int32) = true by decide)) (isb_fit (show isb (1 : Int32) = true by decide)) (Nat.le_of_ble_eq_true rfl) dX11_live_67 (fun H locs hP hD hS => ?_)
      have hP : va_P D vwCl (flat [WX11 cy h0 a0 s0_8]) H := by rw [es]; exact hP
      have hD : va_D A (flat [WX11 cy h0 a0 s0_8]) := by rw [es]; exact hD
      clear es
      refine lv_aload_n hx hb dX11_live_70 rfl (lv_at hl 0 rfl) ?_
      refine lv_aload_n hx hb dX11_live_71 rfl (lv_at hl 0 rfl) ?_
      refine va_get (D := D) (ci := 11) (v := .int (gi s0_8 32)) (C := RX11) (T := TX11) (N := 38) hx hb hts hinX11 hown hK hP 0 rfl rfl 32 (by decide) (hts (.fieldLink RX11 398 "KneeBenchModel" "ranSteps" "I") (List.mem_of_getElem? (i := 6) rfl)) (fun _ h9 => h9) rfl dX11_live_72 ?_
      obtain ⟨r9, hr9, h⟩ := lt_elim h
      refine ca_i (w' := [WX11 cy h0 a0 r9.2]) (rn_V (As := [.int (gi s0_8 32)]) (rest := []) ⟨hx, hb, hml, hown, hts⟩ (kX11_gives l D cy h0 a0 s0_8 (gi s0_8 32) r9 hr9.symm H.size) (cwV 1 hts gX11_live_X11_gives rfl rfl rfl (by decide +kernel) ⟨Nat.le_of_ble_eq_true rfl, Nat.le_of_ble_eq_true rfl⟩) hK hN hP hD [0] rfl rfl (ci := 11) (q0 := 0) rfl rfl rfl rfl hl.1 rfl (Nat.le_of_ble_eq_true rfl) dX11_live_75 ⟨Nat.le_refl 0, Nat.le_refl 0⟩) hP hD hS hA [0] ⟨rfl, rfl, rfl, rfl⟩ (fun H locs hP hD hS => ?_)
      exact hret 78 H locs ls (r9.1, r9.2) (Option.some.inj h) hP hD hS dX11_live_78
    · replace h := (if_pos c3).symm.trans h
      refine lv_aload_n hx hb dX11_live_28 rfl (lv_at hl 0 rfl) ?_
      refine lv_bipush (v := 6) hx hb dX11_live_29 (by decide) ?_
      obtain ⟨r10, hr10, h⟩ := lt_elim h
      refine ca_i (w' := [WX11 cy h0 a0 r10.2]) (rn_V (As := [.int (6 : Int32)]) (rest := []) ⟨hx, hb, hml, hown, hts⟩ (kX11_refuse l D cy h0 a0 s0 (6 : Int32) r10 hr10.symm H.size) (cwV 1 hts gX11_live_X11_refuse rfl rfl rfl (by decide +kernel) ⟨Nat.le_of_ble_eq_true rfl, Nat.le_of_ble_eq_true rfl⟩) hK hN hP hD [0] rfl rfl (ci := 11) (q0 := 0) rfl rfl rfl rfl hl.1 rfl (Nat.le_of_ble_eq_true rfl) dX11_live_31 ⟨Nat.le_refl 0, Nat.le_refl 0⟩) hP hD hS hA [0] ⟨rfl, rfl, rfl, rfl⟩ (fun H locs hP hD hS => ?_)
      exact hret 34 H locs ls (r10.1, r10.2) (Option.some.inj h) hP hD hS dX11_live_34
  · replace h := (if_pos c2).symm.trans h
    refine lv_aload_n hx hb dX11_live_12 rfl (lv_at hl 0 rfl) ?_
    refine lv_iconst (v := 1) hx hb dX11_live_13 (by decide) ?_
    obtain ⟨r11, hr11, h⟩ := lt_elim h
    refine ca_i (w' := [WX11 cy h0 a0 r11.2]) (rn_V (As := [.int (1 : Int32)]) (rest := []) ⟨hx, hb, hml, hown, hts⟩ (kX11_refuse l D cy h0 a0 s0 (1 : Int32) r11 hr11.symm H.size) (cwV 1 hts gX11_live_X11_refuse rfl rfl rfl (by decide +kernel) ⟨Nat.le_of_ble_eq_true rfl, Nat.le_of_ble_eq_true rfl⟩) hK hN hP hD [0] rfl rfl (ci := 11) (q0 := 0) rfl rfl rfl rfl hl.1 rfl (Nat.le_of_ble_eq_true rfl) dX11_live_14 ⟨Nat.le_refl 0, Nat.le_refl 0⟩) hP hD hS hA [0] ⟨rfl, rfl, rfl, rfl⟩ (fun H locs hP hD hS => ?_)
    exact hret 17 H locs ls (r11.1, r11.2) (Option.some.inj h) hP hD hS dX11_live_17
theorem gd_X11_lived : wsX11_lived.all goodWord = true := by decide +kernel
set_option maxRecDepth 20000 in
theorem ggX11_lived_X11_refuse : GoodIn wsX11_lived wsX11_refuse := goodIn_by gd_X11_lived (List.forall_mem_cons.mpr ⟨List.mem_cons_of_mem _ (List.mem_append_left _ (List.mem_of_getElem? (i := 6) rfl)), List.forall_mem_append.mpr ⟨List.forall_mem_cons.mpr ⟨List.mem_cons_of_mem _ (List.mem_append_left _ (List.mem_of_getElem? (i := 7) rfl)), nowords_in⟩, (fun _ h => List.mem_cons_of_mem _ (List.mem_append_right _ (h)))⟩⟩)
set_option maxRecDepth 20000 in
theorem gX11_lived_X11_refuse : GoodIn wsX11_lived (wsV RX11 75 RX11 yX11_refuse wsX11_refuse) := goodIn_app (goodIn_by gd_X11_lived (List.forall_mem_cons.mpr ⟨List.mem_cons_of_mem _ (List.mem_append_left _ (List.mem_of_getElem? (i := 2) rfl)), List.forall_mem_cons.mpr ⟨List.mem_cons_of_mem _ (List.mem_append_left _ (List.mem_of_getElem? (i := 3) rfl)), List.forall_mem_cons.mpr ⟨List.mem_cons_of_mem _ (List.mem_append_left _ (List.mem_of_getElem? (i := 4) rfl)), List.forall_mem_cons.mpr ⟨List.mem_cons_of_mem _ (List.mem_append_left _ (List.mem_of_getElem? (i := 5) rfl)), nowords_in⟩⟩⟩⟩)) ggX11_lived_X11_refuse
set_option maxRecDepth 20000 in
theorem ggX11_lived_X11_gives : GoodIn wsX11_lived wsX11_gives := goodIn_by gd_X11_lived (List.forall_mem_cons.mpr ⟨List.mem_cons_of_mem _ (List.mem_append_left _ (List.mem_of_getElem? (i := 11) rfl)), List.forall_mem_append.mpr ⟨List.forall_mem_cons.mpr ⟨List.mem_cons_of_mem _ (List.mem_append_left _ (List.mem_of_getElem? (i := 7) rfl)), nowords_in⟩, (fun _ h => List.mem_cons_of_mem _ (List.mem_append_right _ (h)))⟩⟩)
set_option maxRecDepth 20000 in
theorem gX11_lived_X11_gives : GoodIn wsX11_lived (wsV RX11 79 RX11 yX11_gives wsX11_gives) := goodIn_app (goodIn_by gd_X11_lived (List.forall_mem_cons.mpr ⟨List.mem_cons_of_mem _ (List.mem_append_left _ (List.mem_of_getElem? (i := 8) rfl)), List.forall_mem_cons.mpr ⟨List.mem_cons_of_mem _ (List.mem_append_left _ (List.mem_of_getElem? (i := 9) rfl)), List.forall_mem_cons.mpr ⟨List.mem_cons_of_mem _ (List.mem_append_left _ (List.mem_of_getElem? (i := 10) rfl)), List.forall_mem_cons.mpr ⟨List.mem_cons_of_mem _ (List.mem_append_left _ (List.mem_of_getElem? (i := 5) rfl)), nowords_in⟩⟩⟩⟩)) ggX11_lived_X11_gives
theorem dX11_lived_0 : decode cX11_lived 0 = .ok (.iload_n 1, 1) := by decide +kernel
theorem dX11_lived_1 : decode cX11_lived 1 = .ok (.ifCond .lt 8, 3) := by decide +kernel
theorem dX11_lived_4 : decode cX11_lived 4 = .ok (.iload_n 1, 1) := by decide +kernel
theorem dX11_lived_5 : decode cX11_lived 5 = .ok (.iconst 3, 1) := by decide +kernel
theorem dX11_lived_6 : decode cX11_lived 6 = .ok (.if_icmp .le 11, 3) := by decide +kernel
theorem dX11_lived_9 : decode cX11_lived 9 = .ok (.aload_n 0, 1) := by decide +kernel
theorem dX11_lived_10 : decode cX11_lived 10 = .ok (.iconst 1, 1) := by decide +kernel
theorem dX11_lived_11 : decode cX11_lived 11 = .ok (.invokevirtual 75, 3) := by decide +kernel
theorem dX11_lived_14 : decode cX11_lived 14 = .ok (.goto 29, 3) := by decide +kernel
theorem dX11_lived_17 : decode cX11_lived 17 = .ok (.aload_n 0, 1) := by decide +kernel
theorem dX11_lived_18 : decode cX11_lived 18 = .ok (.getfield 413, 3) := by decide +kernel
theorem dX11_lived_21 : decode cX11_lived 21 = .ok (.ifCond .eq 16, 3) := by decide +kernel
theorem dX11_lived_24 : decode cX11_lived 24 = .ok (.aload_n 0, 1) := by decide +kernel
theorem dX11_lived_25 : decode cX11_lived 25 = .ok (.aload_n 0, 1) := by decide +kernel
theorem dX11_lived_26 : decode cX11_lived 26 = .ok (.getfield 62, 3) := by decide +kernel
theorem dX11_lived_29 : decode cX11_lived 29 = .ok (.iload_n 1, 1) := by decide +kernel
theorem dX11_lived_30 : decode cX11_lived 30 = .ok (.iaload, 1) := by decide +kernel
theorem dX11_lived_31 : decode cX11_lived 31 = .ok (.invokevirtual 79, 3) := by decide +kernel
theorem dX11_lived_34 : decode cX11_lived 34 = .ok (.goto 9, 3) := by decide +kernel
theorem dX11_lived_37 : decode cX11_lived 37 = .ok (.aload_n 0, 1) := by decide +kernel
theorem dX11_lived_38 : decode cX11_lived 38 = .ok (.bipush 6, 2) := by decide +kernel
theorem dX11_lived_40 : decode cX11_lived 40 = .ok (.invokevirtual 75, 3) := by decide +kernel
theorem dX11_lived_43 : decode cX11_lived 43 = .ok (.ireturn, 1) := by decide +kernel
abbrev rmX11_lived : Room := { frames := 1, cells := 0, slots := 0, locals := 21 }
set_option maxHeartbeats 4000000 in
set_option maxRecDepth 100000 in
theorem kX11_lived (l : Launch) (D : va_G) (cy : Nat → ClassId) (h0 : Nat) (a0 : Nat → Nat) (s0 : Rc) (p1 : Int32) (res : Int32 × Rc) (h : fX11_lived p1 s0 = some res) : CI l D cy yX11_lived wsX11_lived rmX11_lived [.ref h0, .int p1] (flat [WX11 cy h0 a0 s0]) (flat [WX11 cy h0 a0 res.2]) res.1 := by
  refine CI.of (cc := cX11_lived) (maxL := 2) (by decide) rfl (Nat.le_of_ble_eq_true rfl) ?_
  intro p e s m args below meth c A QQ ls E hr
  obtain ⟨hx, hb, hml, hown, hts, hK, hN, hP, hD, hA, hl⟩ := E
  have hret : ∀ (pc : Nat) (H : Heap) (locs : List Loc) (ls : Array Slot) (u : Int32 × Rc), u = res → va_P D vwCl (flat [WX11 cy h0 a0 u.2]) H → va_D A (flat [WX11 cy h0 a0 u.2]) → va_S A s.heap H locs → decode cX11_lived pc = .ok (.ireturn, 1) → W p l e rmX11_lived s m args below meth c H locs 0 0 QQ (F0 m pc ls [.int u.1]) := by
    intro pc H locs ls u hu hP hD hS hd; subst hu; exact hr pc H locs ls _ rfl hP hD hS hd
  clear hr
  have hl : lv_has ls 2 [(0, .ref h0), (1, .int p1)] := hl
  have hinX11 : ∀ w ∈ wsX110, w ∈ wsX11_lived := fun _ h => List.mem_cons_of_mem _ (List.mem_append_right _ h)
  unfold fX11_lived at h
  suffices key : ∀ (H : Heap) (locs : List Loc), va_P D vwCl (flat [WX11 cy h0 a0 s0]) H → va_S A s.heap H locs → W p l e rmX11_lived s m args below meth c H locs 0 0 QQ (F0 m 0 ls []) from key _ _ hP va_S.rf
  clear hP
  intro H locs hP hS
  refine lv_iload_n hx hb dX11_lived_0 rfl (lv_at hl 1 rfl) ?_
  refine lv_if_lt (tgt := 9) hx hb dX11_lived_1 (by decide) (fun c1 => ?_) (fun c1 => ?_)
  · replace h := (if_pos c1).symm.trans h
    refine lv_aload_n hx hb dX11_lived_9 rfl (lv_at hl 0 rfl) ?_
    refine lv_iconst (v := 1) hx hb dX11_lived_10 (by decide) ?_
    obtain ⟨r2, hr2, h⟩ := lt_elim h
    refine ca_i (w' := [WX11 cy h0 a0 r2.2]) (rn_V (As := [.int (1 : Int32)]) (rest := []) ⟨hx, hb, hml, hown, hts⟩ (kX11_refuse l D cy h0 a0 s0 (1 : Int32) r2 hr2.symm H.size) (cwV 1 hts gX11_lived_X11_refuse rfl rfl rfl (by decide +kernel) ⟨Nat.le_of_ble_eq_true rfl, Nat.le_of_ble_eq_true rfl⟩) hK hN hP hD [0] rfl rfl (ci := 11) (q0 := 0) rfl rfl rfl rfl hl.1 rfl (Nat.le_of_ble_eq_true rfl) dX11_lived_11 ⟨Nat.le_refl 0, Nat.le_refl 0⟩) hP hD hS hA [0] ⟨rfl, rfl, rfl, rfl⟩ (fun H locs hP hD hS => ?_)
    refine lv_goto (tgt := 43) hx hb dX11_lived_14 (by decide) ?_
    exact hret 43 H locs ls (r2.1, r2.2) (Option.some.inj h) hP hD hS dX11_lived_43
  · replace h := (if_neg c1).symm.trans h
    refine lv_iload_n hx hb dX11_lived_4 rfl (lv_at hl 1 rfl) ?_
    refine lv_iconst (v := 3) hx hb dX11_lived_5 (by decide) ?_
    refine lv_icmp_le (tgt := 17) hx hb dX11_lived_6 (by decide) (fun c3 => ?_) (fun c3 => ?_)
    · replace h := (if_pos c3).symm.trans h
      refine lv_aload_n hx hb dX11_lived_17 rfl (lv_at hl 0 rfl) ?_
      refine va_get (D := D) (ci := 11) (v := .int (gi s0 36)) (C := RX11) (T := TX11) (N := 38) hx hb hts hinX11 hown hK hP 0 rfl rfl 36 (by decide) (hts (.fieldLink RX11 413 "KneeBenchModel" "isTold" "Z") (List.mem_of_getElem? (i := 1) rfl)) (fun _ h9 => h9) rfl dX11_lived_18 ?_
      refine lv_if_eq (tgt := 37) hx hb dX11_lived_21 (by decide) (fun c4 => ?_) (fun c4 => ?_)
      · replace h := (if_pos c4).symm.trans h
        refine lv_aload_n hx hb dX11_lived_37 rfl (lv_at hl 0 rfl) ?_
        refine lv_bipush (v := 6) hx hb dX11_lived_38 (by decide) ?_
        obtain ⟨r5, hr5, h⟩ := lt_elim h
        refine ca_i (w' := [WX11 cy h0 a0 r5.2]) (rn_V (As := [.int (6 : Int32)]) (rest := []) ⟨hx, hb, hml, hown, hts⟩ (kX11_refuse l D cy h0 a0 s0 (6 : Int32) r5 hr5.symm H.size) (cwV 1 hts gX11_lived_X11_refuse rfl rfl rfl (by decide +kernel) ⟨Nat.le_of_ble_eq_true rfl, Nat.le_of_ble_eq_true rfl⟩) hK hN hP hD [0] rfl rfl (ci := 11) (q0 := 0) rfl rfl rfl rfl hl.1 rfl (Nat.le_of_ble_eq_true rfl) dX11_lived_40 ⟨Nat.le_refl 0, Nat.le_refl 0⟩) hP hD hS hA [0] ⟨rfl, rfl, rfl, rfl⟩ (fun H locs hP hD hS => ?_)
        exact hret 43 H locs ls (r5.1, r5.2) (Option.some.inj h) hP hD hS dX11_lived_43
      · replace h := (if_neg c4).symm.trans h
        refine lv_aload_n hx hb dX11_lived_24 rfl (lv_at hl 0 rfl) ?_
        refine lv_aload_n hx hb dX11_lived_25 rfl (lv_at hl 0 rfl) ?_
        refine va_get (D := D) (ci := 11) (v := .ref (a0 35)) (C := RX11) (T := TX11) (N := 38) hx hb hts hinX11 hown hK hP 0 rfl rfl 35 (by decide) (hts (.fieldLink RX11 62 "KneeBenchModel" "told0" "[I") (List.mem_of_getElem? (i := 2) rfl)) (fun _ h9 => h9) rfl dX11_lived_26 ?_
        refine lv_iload_n hx hb dX11_lived_29 rfl (lv_at hl 1 rfl) ?_
        obtain ⟨g6, h⟩ := gd_elim h
        refine va_iald hx hb hK hP 13 1 rfl rfl (inb_in g6) dX11_lived_30 ?_
        obtain ⟨r7, hr7, h⟩ := lt_elim h
        refine ca_i (w' := [WX11 cy h0 a0 r7.2]) (rn_V (As := [.int (ga s0 35 p1.toNatClampNeg)]) (rest := []) ⟨hx, hb, hml, hown, hts⟩ (kX11_gives l D cy h0 a0 s0 (ga s0 35 p1.toNatClampNeg) r7 hr7.symm H.size) (cwV 1 hts gX11_lived_X11_gives rfl rfl rfl (by decide +kernel) ⟨Nat.le_of_ble_eq_true rfl, Nat.le_of_ble_eq_true rfl⟩) hK hN hP hD [0] rfl rfl (ci := 11) (q0 := 0) rfl rfl rfl rfl hl.1 rfl (Nat.le_of_ble_eq_true rfl) dX11_lived_31 ⟨Nat.le_refl 0, Nat.le_refl 0⟩) hP hD hS hA [0] ⟨rfl, rfl, rfl, rfl⟩ (fun H locs hP hD hS => ?_)
        refine lv_goto (tgt := 43) hx hb dX11_lived_34 (by decide) ?_
        exact hret 43 H locs ls (r7.1, r7.2) (Option.some.inj h) hP hD hS dX11_lived_43
    · replace h := (if_neg c3).symm.trans h
      refine lv_aload_n hx hb dX11_lived_9 rfl (lv_at hl 0 rfl) ?_
      refine lv_iconst (v := 1) hx hb dX11_lived_10 (by decide) ?_
      obtain ⟨r8, hr8, h⟩ := lt_elim h
      refine ca_i (w' := [WX11 cy h0 a0 r8.2]) (rn_V (As := [.int (1 : Int32)]) (rest := []) ⟨hx, hb, hml, hown, hts⟩ (kX11_refuse l D cy h0 a0 s0 (1 : Int32) r8 hr8.symm H.size) (cwV 1 hts gX11_lived_X11_refuse rfl rfl rfl (by decide +kernel) ⟨Nat.le_of_ble_eq_true rfl, Nat.le_of_ble_eq_true rfl⟩) hK hN hP hD [0] rfl rfl (ci := 11) (q0 := 0) rfl rfl rfl rfl hl.1 rfl (Nat.le_of_ble_eq_true rfl) dX11_lived_11 ⟨Nat.le_refl 0, Nat.le_refl 0⟩) hP hD hS hA [0] ⟨rfl, rfl, rfl, rfl⟩ (fun H locs hP hD hS => ?_)
      refine lv_goto (tgt := 43) hx hb dX11_lived_14 (by decide) ?_
      exact hret 43 H locs ls (r8.1, r8.2) (Option.some.inj h) hP hD hS dX11_lived_43
theorem gd_X11_mark : wsX11_mark.all goodWord = true := by decide +kernel
set_option maxRecDepth 20000 in
theorem ggX11_mark_X11_refuse : GoodIn wsX11_mark wsX11_refuse := goodIn_by gd_X11_mark (List.forall_mem_cons.mpr ⟨List.mem_cons_of_mem _ (List.mem_append_left _ (List.mem_of_getElem? (i := 5) rfl)), List.forall_mem_append.mpr ⟨List.forall_mem_cons.mpr ⟨List.mem_cons_of_mem _ (List.mem_append_left _ (List.mem_of_getElem? (i := 6) rfl)), nowords_in⟩, (fun _ h => List.mem_cons_of_mem _ (List.mem_append_right _ (h)))⟩⟩)
set_option maxRecDepth 20000 in
theorem gX11_mark_X11_refuse : GoodIn wsX11_mark (wsV RX11 75 RX11 yX11_refuse wsX11_refuse) := goodIn_app (goodIn_by gd_X11_mark (List.forall_mem_cons.mpr ⟨List.mem_cons_of_mem _ (List.mem_append_left _ (List.mem_of_getElem? (i := 1) rfl)), List.forall_mem_cons.mpr ⟨List.mem_cons_of_mem _ (List.mem_append_left _ (List.mem_of_getElem? (i := 2) rfl)), List.forall_mem_cons.mpr ⟨List.mem_cons_of_mem _ (List.mem_append_left _ (List.mem_of_getElem? (i := 3) rfl)), List.forall_mem_cons.mpr ⟨List.mem_cons_of_mem _ (List.mem_append_left _ (List.mem_of_getElem? (i := 4) rfl)), nowords_in⟩⟩⟩⟩)) ggX11_mark_X11_refuse
set_option maxRecDepth 20000 in
theorem ggX11_mark_X11_copies : GoodIn wsX11_mark wsX11_copies := goodIn_by gd_X11_mark (List.forall_mem_cons.mpr ⟨List.mem_cons_of_mem _ (List.mem_append_left _ (List.mem_of_getElem? (i := 10) rfl)), List.forall_mem_append.mpr ⟨List.forall_mem_cons.mpr ⟨List.mem_cons_of_mem _ (List.mem_append_left _ (List.mem_of_getElem? (i := 11) rfl)), List.forall_mem_cons.mpr ⟨List.mem_cons_of_mem _ (List.mem_append_left _ (List.mem_of_getElem? (i := 12) rfl)), nowords_in⟩⟩, (fun _ h => List.mem_cons_of_mem _ (List.mem_append_right _ (h)))⟩⟩)
set_option maxRecDepth 20000 in
theorem gX11_mark_X11_copies : GoodIn wsX11_mark (wsV RX11 421 RX11 yX11_copies wsX11_copies) := goodIn_app (goodIn_by gd_X11_mark (List.forall_mem_cons.mpr ⟨List.mem_cons_of_mem _ (List.mem_append_left _ (List.mem_of_getElem? (i := 7) rfl)), List.forall_mem_cons.mpr ⟨List.mem_cons_of_mem _ (List.mem_append_left _ (List.mem_of_getElem? (i := 8) rfl)), List.forall_mem_cons.mpr ⟨List.mem_cons_of_mem _ (List.mem_append_left _ (List.mem_of_getElem? (i := 9) rfl)), List.forall_mem_cons.mpr ⟨List.mem_cons_of_mem _ (List.mem_append_left _ (List.mem_of_getElem? (i := 4) rfl)), nowords_in⟩⟩⟩⟩)) ggX11_mark_X11_copies
set_option maxRecDepth 20000 in
theorem ggX11_mark_X11_gives : GoodIn wsX11_mark wsX11_gives := goodIn_by gd_X11_mark (List.forall_mem_cons.mpr ⟨List.mem_cons_of_mem _ (List.mem_append_left _ (List.mem_of_getElem? (i := 16) rfl)), List.forall_mem_append.mpr ⟨List.forall_mem_cons.mpr ⟨List.mem_cons_of_mem _ (List.mem_append_left _ (List.mem_of_getElem? (i := 6) rfl)), nowords_in⟩, (fun _ h => List.mem_cons_of_mem _ (List.mem_append_right _ (h)))⟩⟩)
set_option maxRecDepth 20000 in
theorem gX11_mark_X11_gives : GoodIn wsX11_mark (wsV RX11 79 RX11 yX11_gives wsX11_gives) := goodIn_app (goodIn_by gd_X11_mark (List.forall_mem_cons.mpr ⟨List.mem_cons_of_mem _ (List.mem_append_left _ (List.mem_of_getElem? (i := 13) rfl)), List.forall_mem_cons.mpr ⟨List.mem_cons_of_mem _ (List.mem_append_left _ (List.mem_of_getElem? (i := 14) rfl)), List.forall_mem_cons.mpr ⟨List.mem_cons_of_mem _ (List.mem_append_left _ (List.mem_of_getElem? (i := 15) rfl)), List.forall_mem_cons.mpr ⟨List.mem_cons_of_mem _ (List.mem_append_left _ (List.mem_of_getElem? (i := 4) rfl)), nowords_in⟩⟩⟩⟩)) ggX11_mark_X11_gives
theorem dX11_mark_0 : decode cX11_mark 0 = .ok (.aload_n 0, 1) := by decide +kernel
theorem dX11_mark_1 : decode cX11_mark 1 = .ok (.getfield 418, 3) := by decide +kernel
theorem dX11_mark_4 : decode cX11_mark 4 = .ok (.iconst 3, 1) := by decide +kernel
theorem dX11_mark_5 : decode cX11_mark 5 = .ok (.if_icmp .ne 9, 3) := by decide +kernel
theorem dX11_mark_8 : decode cX11_mark 8 = .ok (.aload_n 0, 1) := by decide +kernel
theorem dX11_mark_9 : decode cX11_mark 9 = .ok (.iconst 4, 1) := by decide +kernel
theorem dX11_mark_10 : decode cX11_mark 10 = .ok (.invokevirtual 75, 3) := by decide +kernel
theorem dX11_mark_13 : decode cX11_mark 13 = .ok (.ireturn, 1) := by decide +kernel
theorem dX11_mark_14 : decode cX11_mark 14 = .ok (.aload_n 0, 1) := by decide +kernel
theorem dX11_mark_15 : decode cX11_mark 15 = .ok (.dup, 1) := by decide +kernel
theorem dX11_mark_16 : decode cX11_mark 16 = .ok (.getfield 418, 3) := by decide +kernel
theorem dX11_mark_19 : decode cX11_mark 19 = .ok (.iconst 1, 1) := by decide +kernel
theorem dX11_mark_20 : decode cX11_mark 20 = .ok (.iadd, 1) := by decide +kernel
theorem dX11_mark_21 : decode cX11_mark 21 = .ok (.putfield 418, 3) := by decide +kernel
theorem dX11_mark_24 : decode cX11_mark 24 = .ok (.aload_n 0, 1) := by decide +kernel
theorem dX11_mark_25 : decode cX11_mark 25 = .ok (.iconst 0, 1) := by decide +kernel
theorem dX11_mark_26 : decode cX11_mark 26 = .ok (.aload_n 0, 1) := by decide +kernel
theorem dX11_mark_27 : decode cX11_mark 27 = .ok (.getfield 418, 3) := by decide +kernel
theorem dX11_mark_30 : decode cX11_mark 30 = .ok (.invokevirtual 421, 3) := by decide +kernel
theorem dX11_mark_33 : decode cX11_mark 33 = .ok (.aload_n 0, 1) := by decide +kernel
theorem dX11_mark_34 : decode cX11_mark 34 = .ok (.aload_n 0, 1) := by decide +kernel
theorem dX11_mark_35 : decode cX11_mark 35 = .ok (.getfield 418, 3) := by decide +kernel
theorem dX11_mark_38 : decode cX11_mark 38 = .ok (.invokevirtual 79, 3) := by decide +kernel
theorem dX11_mark_41 : decode cX11_mark 41 = .ok (.ireturn, 1) := by decide +kernel
abbrev rmX11_mark : Room := { frames := 1, cells := 0, slots := 0, locals := 23 }
set_option maxHeartbeats 4000000 in
set_option maxRecDepth 100000 in
theorem kX11_mark (l : Launch) (D : va_G) (cy : Nat → ClassId) (h0 : Nat) (a0 : Nat → Nat) (s0 : Rc) (res : Int32 × Rc) (h : fX11_mark s0 = some res) : CI l D cy yX11_mark wsX11_mark rmX11_mark [.ref h0] (flat [WX11 cy h0 a0 s0]) (flat [WX11 cy h0 a0 res.2]) res.1 := by
  refine CI.of (cc := cX11_mark) (maxL := 1) (by decide) rfl (Nat.le_of_ble_eq_true rfl) ?_
  intro p e s m args below meth c A QQ ls E hr
  obtain ⟨hx, hb, hml, hown, hts, hK, hN, hP, hD, hA, hl⟩ := E
  have hret : ∀ (pc : Nat) (H : Heap) (locs : List Loc) (ls : Array Slot) (u : Int32 × Rc), u = res → va_P D vwCl (flat [WX11 cy h0 a0 u.2]) H → va_D A (flat [WX11 cy h0 a0 u.2]) → va_S A s.heap H locs → decode cX11_mark pc = .ok (.ireturn, 1) → W p l e rmX11_mark s m args below meth c H locs 0 0 QQ (F0 m pc ls [.int u.1]) := by
    intro pc H locs ls u hu hP hD hS hd; subst hu; exact hr pc H locs ls _ rfl hP hD hS hd
  clear hr
  have hl : lv_has ls 1 [(0, .ref h0)] := hl
  have hinX11 : ∀ w ∈ wsX110, w ∈ wsX11_mark := fun _ h => List.mem_cons_of_mem _ (List.mem_append_right _ h)
  unfold fX11_mark at h
  suffices key : ∀ (H : Heap) (locs : List Loc), va_P D vwCl (flat [WX11 cy h0 a0 s0]) H → va_S A s.heap H locs → W p l e rmX11_mark s m args below meth c H locs 0 0 QQ (F0 m 0 ls []) from key _ _ hP va_S.rf
  clear hP
  intro H locs hP hS
  refine lv_aload_n hx hb dX11_mark_0 rfl (lv_at hl 0 rfl) ?_
  refine va_get (D := D) (ci := 11) (v := .int (gi s0 37)) (C := RX11) (T := TX11) (N := 38) hx hb hts hinX11 hown hK hP 0 rfl rfl 37 (by decide) (hts (.fieldLink RX11 418 "KneeBenchModel" "marks" "I") (List.mem_of_getElem? (i := 1) rfl)) (fun _ h9 => h9) rfl dX11_mark_1 ?_
  refine lv_iconst (v := 3) hx hb dX11_mark_4 (by decide) ?_
  refine lv_icmp_ne (tgt := 14) hx hb dX11_mark_5 (by decide) (fun c1 => ?_) (fun c1 => ?_)
  · replace h := (if_neg c1).symm.trans h
    refine lv_aload_n hx hb dX11_mark_14 rfl (lv_at hl 0 rfl) ?_
    refine lv_dup hx hb dX11_mark_15 rfl ?_
    refine va_get (D := D) (ci := 11) (v := .int (gi s0 37)) (C := RX11) (T := TX11) (N := 38) hx hb hts hinX11 hown hK hP 0 rfl rfl 37 (by decide) (hts (.fieldLink RX11 418 "KneeBenchModel" "marks" "I") (List.mem_of_getElem? (i := 1) rfl)) (fun _ h9 => h9) rfl dX11_mark_16 ?_
    refine lv_iconst (v := 1) hx hb dX11_mark_19 (by decide) ?_
    refine lv_iadd hx hb dX11_mark_20 ?_
    obtain ⟨s0_2, es, h⟩ := lt_elim h
    refine va_put (D := D) (ci := 11) (v := .int ((gi s0 37) + (1 : Int32))) (ty := .int) (C := RX11) (T := TX11) (N := 38) hx hb hts hinX11 tyX11 tyX11_ok nmX11 hown hK hP hD hS 0 rfl rfl 37 (by decide) (hts (.fieldLink RX11 418 "KneeBenchModel" "marks" "I") (List.mem_of_getElem? (i := 1) rfl)) (fun _ h9 => h9) rfl (by decide +kernel) rfl rfl (Nat.le_of_ble_eq_true rfl) dX11_mark_21 (fun H locs hP hD hS => ?_)
    have hP : va_P D vwCl (flat [WX11 cy h0 a0 s0_2]) H := by rw [es]; exact hP
    have hD : va_D A (flat [WX11 cy h0 a0 s0_2]) := by rw [es]; exact hD
    clear es
    refine lv_aload_n hx hb dX11_mark_24 rfl (lv_at hl 0 rfl) ?_
    refine lv_iconst (v := 0) hx hb dX11_mark_25 (by decide) ?_
    refine lv_aload_n hx hb dX11_mark_26 rfl (lv_at hl 0 rfl) ?_
    refine va_get (D := D) (ci := 11) (v := .int (gi s0_2 37)) (C := RX11) (T := TX11) (N := 38) hx hb hts hinX11 hown hK hP 0 rfl rfl 37 (by decide) (hts (.fieldLink RX11 418 "KneeBenchModel" "marks" "I") (List.mem_of_getElem? (i := 1) rfl)) (fun _ h9 => h9) rfl dX11_mark_27 ?_
    obtain ⟨r3, hr3, h⟩ := bd_elim h
    refine ca_v (w' := [WX11 cy h0 a0 r3]) (rn_V (As := [.int (0 : Int32), .int (gi s0_2 37)]) (rest := []) ⟨hx, hb, hml, hown, hts⟩ (kX11_copies l D cy h0 a0 s0_2 (0 : Int32) (gi s0_2 37) r3 hr3 H.size) (cwV 2 hts gX11_mark_X11_copies rfl rfl rfl (by decide +kernel) ⟨Nat.le_of_ble_eq_true rfl, Nat.le_of_ble_eq_true rfl⟩) hK hN hP hD [0] rfl rfl (ci := 11) (q0 := 0) rfl rfl rfl rfl hl.1 rfl (Nat.le_of_ble_eq_true rfl) dX11_mark_30 ⟨Nat.le_refl 0, Nat.le_refl 0⟩) hP hD hS hA [0] ⟨rfl, rfl, rfl, rfl⟩ (fun H locs hP hD hS => ?_)
    refine lv_aload_n hx hb dX11_mark_33 rfl (lv_at hl 0 rfl) ?_
    refine lv_aload_n hx hb dX11_mark_34 rfl (lv_at hl 0 rfl) ?_
    refine va_get (D := D) (ci := 11) (v := .int (gi r3 37)) (C := RX11) (T := TX11) (N := 38) hx hb hts hinX11 hown hK hP 0 rfl rfl 37 (by decide) (hts (.fieldLink RX11 418 "KneeBenchModel" "marks" "I") (List.mem_of_getElem? (i := 1) rfl)) (fun _ h9 => h9) rfl dX11_mark_35 ?_
    obtain ⟨r4, hr4, h⟩ := lt_elim h
    refine ca_i (w' := [WX11 cy h0 a0 r4.2]) (rn_V (As := [.int (gi r3 37)]) (rest := []) ⟨hx, hb, hml, hown, hts⟩ (kX11_gives l D cy h0 a0 r3 (gi r3 37) r4 hr4.symm H.size) (cwV 1 hts gX11_mark_X11_gives rfl rfl rfl (by decide +kernel) ⟨Nat.le_of_ble_eq_true rfl, Nat.le_of_ble_eq_true rfl⟩) hK hN hP hD [0] rfl rfl (ci := 11) (q0 := 0) rfl rfl rfl rfl hl.1 rfl (Nat.le_of_ble_eq_true rfl) dX11_mark_38 ⟨Nat.le_refl 0, Nat.le_refl 0⟩) hP hD hS hA [0] ⟨rfl, rfl, rfl, rfl⟩ (fun H locs hP hD hS => ?_)
    exact hret 41 H locs ls (r4.1, r4.2) (Option.some.inj h) hP hD hS dX11_mark_41
  · replace h := (if_pos c1).symm.trans h
    refine lv_aload_n hx hb dX11_mark_8 rfl (lv_at hl 0 rfl) ?_
    refine lv_iconst (v := 4) hx hb dX11_mark_9 (by decide) ?_
    obtain ⟨r5, hr5, h⟩ := lt_elim h
    refine ca_i (w' := [WX11 cy h0 a0 r5.2]) (rn_V (As := [.int (4 : Int32)]) (rest := []) ⟨hx, hb, hml, hown, hts⟩ (kX11_refuse l D cy h0 a0 s0 (4 : Int32) r5 hr5.symm H.size) (cwV 1 hts gX11_mark_X11_refuse rfl rfl rfl (by decide +kernel) ⟨Nat.le_of_ble_eq_true rfl, Nat.le_of_ble_eq_true rfl⟩) hK hN hP hD [0] rfl rfl (ci := 11) (q0 := 0) rfl rfl rfl rfl hl.1 rfl (Nat.le_of_ble_eq_true rfl) dX11_mark_10 ⟨Nat.le_refl 0, Nat.le_refl 0⟩) hP hD hS hA [0] ⟨rfl, rfl, rfl, rfl⟩ (fun H locs hP hD hS => ?_)
    exact hret 13 H locs ls (r5.1, r5.2) (Option.some.inj h) hP hD hS dX11_mark_13
theorem gd_X11_mean : wsX11_mean.all goodWord = true := by decide +kernel
set_option maxRecDepth 20000 in
theorem ggX11_mean_X11_isFrom : GoodIn wsX11_mean wsX11_isFrom := goodIn_by gd_X11_mean (List.forall_mem_cons.mpr ⟨List.mem_cons_of_mem _ (List.mem_append_left _ (List.mem_append_left _ (List.mem_of_getElem? (i := 6) rfl))), nowords_in⟩)
set_option maxRecDepth 20000 in
theorem gX11_mean_X11_isFrom : GoodIn wsX11_mean (va_wsS RX11 282 yX11_isFrom wsX11_isFrom) := goodIn_app (goodIn_by gd_X11_mean (List.forall_mem_cons.mpr ⟨List.mem_cons_of_mem _ (List.mem_append_left _ (List.mem_append_left _ (List.mem_of_getElem? (i := 3) rfl))), List.forall_mem_cons.mpr ⟨List.mem_cons_of_mem _ (List.mem_append_left _ (List.mem_append_left _ (List.mem_of_getElem? (i := 4) rfl))), List.forall_mem_cons.mpr ⟨List.mem_cons_of_mem _ (List.mem_append_left _ (List.mem_append_left _ (List.mem_of_getElem? (i := 5) rfl))), nowords_in⟩⟩⟩)) ggX11_mean_X11_isFrom
set_option maxRecDepth 20000 in
theorem ggX11_mean_X11_is : GoodIn wsX11_mean wsX11_is := goodIn_by gd_X11_mean (List.forall_mem_cons.mpr ⟨List.mem_cons_of_mem _ (List.mem_append_left _ (List.mem_append_left _ (List.mem_of_getElem? (i := 10) rfl))), List.forall_mem_append.mpr ⟨List.forall_mem_cons.mpr ⟨List.mem_cons_of_mem _ (List.mem_append_left _ (List.mem_append_left _ (List.mem_of_getElem? (i := 11) rfl))), nowords_in⟩, (fun _ h => List.mem_cons_of_mem _ (List.mem_append_right _ (h)))⟩⟩)
set_option maxRecDepth 20000 in
theorem gX11_mean_X11_is : GoodIn wsX11_mean (wsV RX11 82 RX11 yX11_is wsX11_is) := goodIn_app (goodIn_by gd_X11_mean (List.forall_mem_cons.mpr ⟨List.mem_cons_of_mem _ (List.mem_append_left _ (List.mem_append_left _ (List.mem_of_getElem? (i := 7) rfl))), List.forall_mem_cons.mpr ⟨List.mem_cons_of_mem _ (List.mem_append_left _ (List.mem_append_left _ (List.mem_of_getElem? (i := 8) rfl))), List.forall_mem_cons.mpr ⟨List.mem_cons_of_mem _ (List.mem_append_left _ (List.mem_append_left _ (List.mem_of_getElem? (i := 9) rfl))), List.forall_mem_cons.mpr ⟨List.mem_cons_of_mem _ (List.mem_append_left _ (List.mem_append_left _ (List.mem_of_getElem? (i := 5) rfl))), nowords_in⟩⟩⟩⟩)) ggX11_mean_X11_is
set_option maxRecDepth 20000 in
theorem ggX11_mean_X11_lives : GoodIn wsX11_mean wsX11_lives := goodIn_by gd_X11_mean (List.forall_mem_cons.mpr ⟨List.mem_cons_of_mem _ (List.mem_append_left _ (List.mem_append_left _ (List.mem_of_getElem? (i := 15) rfl))), List.forall_mem_append.mpr ⟨List.forall_mem_append.mpr ⟨List.forall_mem_cons.mpr ⟨List.mem_cons_of_mem _ (List.mem_append_left _ (List.mem_append_left _ (List.mem_of_getElem? (i := 16) rfl))), List.forall_mem_cons.mpr ⟨List.mem_cons_of_mem _ (List.mem_append_left _ (List.mem_append_left _ (List.mem_of_getElem? (i := 17) rfl))), List.forall_mem_cons.mpr ⟨List.mem_cons_of_mem _ (List.mem_append_left _ (List.mem_append_left _ (List.mem_of_getElem? (i := 18) rfl))), List.forall_mem_cons.mpr ⟨List.mem_cons_of_mem _ (List.mem_append_left _ (List.mem_append_left _ (List.mem_of_getElem? (i := 2) rfl))), List.forall_mem_cons.mpr ⟨List.mem_cons_of_mem _ (List.mem_append_left _ (List.mem_append_left _ (List.mem_of_getElem? (i := 19) rfl))), List.forall_mem_cons.mpr ⟨List.mem_cons_of_mem _ (List.mem_append_left _ (List.mem_append_left _ (List.mem_of_getElem? (i := 20) rfl))), List.forall_mem_cons.mpr ⟨List.mem_cons_of_mem _ (List.mem_append_left _ (List.mem_append_left _ (List.mem_of_getElem? (i := 21) rfl))), List.forall_mem_cons.mpr ⟨List.mem_cons_of_mem _ (List.mem_append_left _ (List.mem_append_left _ (List.mem_of_getElem? (i := 22) rfl))), List.forall_mem_cons.mpr ⟨List.mem_cons_of_mem _ (List.mem_append_left _ (List.mem_append_left _ (List.mem_of_getElem? (i := 5) rfl))), List.forall_mem_cons.mpr ⟨List.mem_cons_of_mem _ (List.mem_append_left _ (List.mem_append_left _ (List.mem_of_getElem? (i := 23) rfl))), List.forall_mem_cons.mpr ⟨List.mem_cons_of_mem _ (List.mem_append_left _ (List.mem_append_right _ (List.mem_append_left _ (List.mem_of_getElem? (i := 0) rfl)))), List.forall_mem_cons.mpr ⟨List.mem_cons_of_mem _ (List.mem_append_left _ (List.mem_append_right _ (List.mem_append_left _ (List.mem_of_getElem? (i := 1) rfl)))), List.forall_mem_cons.mpr ⟨List.mem_cons_of_mem _ (List.mem_append_left _ (List.mem_append_right _ (List.mem_append_left _ (List.mem_of_getElem? (i := 2) rfl)))), List.forall_mem_cons.mpr ⟨List.mem_cons_of_mem _ (List.mem_append_left _ (List.mem_append_right _ (List.mem_append_left _ (List.mem_of_getElem? (i := 3) rfl)))), List.forall_mem_cons.mpr ⟨List.mem_cons_of_mem _ (List.mem_append_left _ (List.mem_append_right _ (List.mem_append_left _ (List.mem_of_getElem? (i := 4) rfl)))), List.forall_mem_cons.mpr ⟨List.mem_cons_of_mem _ (List.mem_append_left _ (List.mem_append_right _ (List.mem_append_left _ (List.mem_of_getElem? (i := 5) rfl)))), List.forall_mem_cons.mpr ⟨List.mem_cons_of_mem _ (List.mem_append_left _ (List.mem_append_right _ (List.mem_append_left _ (List.mem_of_getElem? (i := 6) rfl)))), List.forall_mem_cons.mpr ⟨List.mem_cons_of_mem _ (List.mem_append_left _ (List.mem_append_right _ (List.mem_append_left _ (List.mem_of_getElem? (i := 7) rfl)))), List.forall_mem_cons.mpr ⟨List.mem_cons_of_mem _ (List.mem_append_left _ (List.mem_append_right _ (List.mem_append_left _ (List.mem_of_getElem? (i := 8) rfl)))), List.forall_mem_cons.mpr ⟨List.mem_cons_of_mem _ (List.mem_append_left _ (List.mem_append_right _ (List.mem_append_left _ (List.mem_of_getElem? (i := 9) rfl)))), List.forall_mem_cons.mpr ⟨List.mem_cons_of_mem _ (List.mem_append_left _ (List.mem_append_right _ (List.mem_append_left _ (List.mem_of_getElem? (i := 10) rfl)))), List.forall_mem_cons.mpr ⟨List.mem_cons_of_mem _ (List.mem_append_left _ (List.mem_append_right _ (List.mem_append_left _ (List.mem_of_getElem? (i := 11) rfl)))), List.forall_mem_cons.mpr ⟨List.mem_cons_of_mem _ (List.mem_append_left _ (List.mem_append_right _ (List.mem_append_left _ (List.mem_of_getElem? (i := 12) rfl)))), List.forall_mem_cons.mpr ⟨List.mem_cons_of_mem _ (List.mem_append_left _ (List.mem_append_right _ (List.mem_append_left _ (List.mem_of_getElem? (i := 13) rfl)))), nowords_in⟩⟩⟩⟩⟩⟩⟩⟩⟩⟩⟩⟩⟩⟩⟩⟩⟩⟩⟩⟩⟩⟩⟩⟩, List.forall_mem_append.mpr ⟨List.forall_mem_cons.mpr ⟨List.mem_cons_of_mem _ (List.mem_append_left _ (List.mem_append_right _ (List.mem_append_left _ (List.mem_of_getElem? (i := 14) rfl)))), List.forall_mem_cons.mpr ⟨List.mem_cons_of_mem _ (List.mem_append_left _ (List.mem_append_right _ (List.mem_append_left _ (List.mem_of_getElem? (i := 15) rfl)))), List.forall_mem_cons.mpr ⟨List.mem_cons_of_mem _ (List.mem_append_left _ (List.mem_append_right _ (List.mem_append_left _ (List.mem_of_getElem? (i := 16) rfl)))), List.forall_mem_cons.mpr ⟨List.mem_cons_of_mem _ (List.mem_append_left _ (List.mem_append_right _ (List.mem_append_left _ (List.mem_of_getElem? (i := 17) rfl)))), List.forall_mem_cons.mpr ⟨List.mem_cons_of_mem _ (List.mem_append_left _ (List.mem_append_right _ (List.mem_append_left _ (List.mem_of_getElem? (i := 18) rfl)))), List.forall_mem_cons.mpr ⟨List.mem_cons_of_mem _ (List.mem_append_left _ (List.mem_append_right _ (List.mem_append_left _ (List.mem_of_getElem? (i := 19) rfl)))), List.forall_mem_cons.mpr ⟨List.mem_cons_of_mem _ (List.mem_append_left _ (List.mem_append_right _ (List.mem_append_left _ (List.mem_of_getElem? (i := 20) rfl)))), List.forall_mem_cons.mpr ⟨List.mem_cons_of_mem _ (List.mem_append_left _ (List.mem_append_right _ (List.mem_append_left _ (List.mem_of_getElem? (i := 21) rfl)))), List.forall_mem_cons.mpr ⟨List.mem_cons_of_mem _ (List.mem_append_left _ (List.mem_append_right _ (List.mem_append_left _ (List.mem_of_getElem? (i := 22) rfl)))), List.forall_mem_cons.mpr ⟨List.mem_cons_of_mem _ (List.mem_append_left _ (List.mem_append_right _ (List.mem_append_left _ (List.mem_of_getElem? (i := 23) rfl)))), List.forall_mem_cons.mpr ⟨List.mem_cons_of_mem _ (List.mem_append_left _ (List.mem_append_right _ (List.mem_append_right _ (List.mem_append_left _ (List.mem_of_getElem? (i := 0) rfl))))), List.forall_mem_cons.mpr ⟨List.mem_cons_of_mem _ (List.mem_append_left _ (List.mem_append_right _ (List.mem_append_right _ (List.mem_append_left _ (List.mem_of_getElem? (i := 1) rfl))))), List.forall_mem_cons.mpr ⟨List.mem_cons_of_mem _ (List.mem_append_left _ (List.mem_append_right _ (List.mem_append_right _ (List.mem_append_left _ (List.mem_of_getElem? (i := 2) rfl))))), List.forall_mem_cons.mpr ⟨List.mem_cons_of_mem _ (List.mem_append_left _ (List.mem_append_right _ (List.mem_append_right _ (List.mem_append_left _ (List.mem_of_getElem? (i := 3) rfl))))), List.forall_mem_cons.mpr ⟨List.mem_cons_of_mem _ (List.mem_append_left _ (List.mem_append_right _ (List.mem_append_right _ (List.mem_append_left _ (List.mem_of_getElem? (i := 4) rfl))))), List.forall_mem_cons.mpr ⟨List.mem_cons_of_mem _ (List.mem_append_left _ (List.mem_append_right _ (List.mem_append_right _ (List.mem_append_left _ (List.mem_of_getElem? (i := 5) rfl))))), List.forall_mem_cons.mpr ⟨List.mem_cons_of_mem _ (List.mem_append_left _ (List.mem_append_right _ (List.mem_append_right _ (List.mem_append_left _ (List.mem_of_getElem? (i := 6) rfl))))), List.forall_mem_cons.mpr ⟨List.mem_cons_of_mem _ (List.mem_append_left _ (List.mem_append_right _ (List.mem_append_right _ (List.mem_append_left _ (List.mem_of_getElem? (i := 7) rfl))))), List.forall_mem_cons.mpr ⟨List.mem_cons_of_mem _ (List.mem_append_left _ (List.mem_append_right _ (List.mem_append_right _ (List.mem_append_left _ (List.mem_of_getElem? (i := 8) rfl))))), List.forall_mem_cons.mpr ⟨List.mem_cons_of_mem _ (List.mem_append_left _ (List.mem_append_right _ (List.mem_append_right _ (List.mem_append_left _ (List.mem_of_getElem? (i := 9) rfl))))), List.forall_mem_cons.mpr ⟨List.mem_cons_of_mem _ (List.mem_append_left _ (List.mem_append_right _ (List.mem_append_right _ (List.mem_append_left _ (List.mem_of_getElem? (i := 10) rfl))))), List.forall_mem_cons.mpr ⟨List.mem_cons_of_mem _ (List.mem_append_left _ (List.mem_append_right _ (List.mem_append_right _ (List.mem_append_left _ (List.mem_of_getElem? (i := 11) rfl))))), List.forall_mem_cons.mpr ⟨List.mem_cons_of_mem _ (List.mem_append_left _ (List.mem_append_right _ (List.mem_append_right _ (List.mem_append_left _ (List.mem_of_getElem? (i := 12) rfl))))), List.forall_mem_cons.mpr ⟨List.mem_cons_of_mem _ (List.mem_append_left _ (List.mem_append_right _ (List.mem_append_right _ (List.mem_append_left _ (List.mem_of_getElem? (i := 13) rfl))))), nowords_in⟩⟩⟩⟩⟩⟩⟩⟩⟩⟩⟩⟩⟩⟩⟩⟩⟩⟩⟩⟩⟩⟩⟩⟩, List.forall_mem_append.mpr ⟨List.forall_mem_cons.mpr ⟨List.mem_cons_of_mem _ (List.mem_append_left _ (List.mem_append_right _ (List.mem_append_right _ (List.mem_append_left _ (List.mem_of_getElem? (i := 14) rfl))))), List.forall_mem_cons.mpr ⟨List.mem_cons_of_mem _ (List.mem_append_left _ (List.mem_append_right _ (List.mem_append_right _ (List.mem_append_left _ (List.mem_of_getElem? (i := 15) rfl))))), List.forall_mem_cons.mpr ⟨List.mem_cons_of_mem _ (List.mem_append_left _ (List.mem_append_right _ (List.mem_append_right _ (List.mem_append_left _ (List.mem_of_getElem? (i := 16) rfl))))), List.forall_mem_cons.mpr ⟨List.mem_cons_of_mem _ (List.mem_append_left _ (List.mem_append_right _ (List.mem_append_right _ (List.mem_append_left _ (List.mem_of_getElem? (i := 17) rfl))))), List.forall_mem_cons.mpr ⟨List.mem_cons_of_mem _ (List.mem_append_left _ (List.mem_append_right _ (List.mem_append_right _ (List.mem_append_left _ (List.mem_of_getElem? (i := 18) rfl))))), List.forall_mem_cons.mpr ⟨List.mem_cons_of_mem _ (List.mem_append_left _ (List.mem_append_right _ (List.mem_append_right _ (List.mem_append_left _ (List.mem_of_getElem? (i := 19) rfl))))), List.forall_mem_cons.mpr ⟨List.mem_cons_of_mem _ (List.mem_append_left _ (List.mem_append_right _ (List.mem_append_right _ (List.mem_append_left _ (List.mem_of_getElem? (i := 20) rfl))))), List.forall_mem_cons.mpr ⟨List.mem_cons_of_mem _ (List.mem_append_left _ (List.mem_append_right _ (List.mem_append_right _ (List.mem_append_left _ (List.mem_of_getElem? (i := 21) rfl))))), List.forall_mem_cons.mpr ⟨List.mem_cons_of_mem _ (List.mem_append_left _ (List.mem_append_right _ (List.mem_append_right _ (List.mem_append_left _ (List.mem_of_getElem? (i := 22) rfl))))), List.forall_mem_cons.mpr ⟨List.mem_cons_of_mem _ (List.mem_append_left _ (List.mem_append_right _ (List.mem_append_right _ (List.mem_append_left _ (List.mem_of_getElem? (i := 23) rfl))))), List.forall_mem_cons.mpr ⟨List.mem_cons_of_mem _ (List.mem_append_left _ (List.mem_append_right _ (List.mem_append_right _ (List.mem_append_right _ (List.mem_append_left _ (List.mem_of_getElem? (i := 0) rfl)))))), List.forall_mem_cons.mpr ⟨List.mem_cons_of_mem _ (List.mem_append_left _ (List.mem_append_right _ (List.mem_append_right _ (List.mem_append_right _ (List.mem_append_left _ (List.mem_of_getElem? (i := 1) rfl)))))), List.forall_mem_cons.mpr ⟨List.mem_cons_of_mem _ (List.mem_append_left _ (List.mem_append_right _ (List.mem_append_right _ (List.mem_append_right _ (List.mem_append_left _ (List.mem_of_getElem? (i := 2) rfl)))))), List.forall_mem_cons.mpr ⟨List.mem_cons_of_mem _ (List.mem_append_left _ (List.mem_append_right _ (List.mem_append_right _ (List.mem_append_right _ (List.mem_append_left _ (List.mem_of_getElem? (i := 3) rfl)))))), List.forall_mem_cons.mpr ⟨List.mem_cons_of_mem _ (List.mem_append_left _ (List.mem_append_right _ (List.mem_append_right _ (List.mem_append_right _ (List.mem_append_left _ (List.mem_of_getElem? (i := 4) rfl)))))), List.forall_mem_cons.mpr ⟨List.mem_cons_of_mem _ (List.mem_append_left _ (List.mem_append_right _ (List.mem_append_right _ (List.mem_append_right _ (List.mem_append_left _ (List.mem_of_getElem? (i := 5) rfl)))))), List.forall_mem_cons.mpr ⟨List.mem_cons_of_mem _ (List.mem_append_left _ (List.mem_append_right _ (List.mem_append_right _ (List.mem_append_right _ (List.mem_append_left _ (List.mem_of_getElem? (i := 6) rfl)))))), List.forall_mem_cons.mpr ⟨List.mem_cons_of_mem _ (List.mem_append_left _ (List.mem_append_right _ (List.mem_append_right _ (List.mem_append_right _ (List.mem_append_left _ (List.mem_of_getElem? (i := 7) rfl)))))), List.forall_mem_cons.mpr ⟨List.mem_cons_of_mem _ (List.mem_append_left _ (List.mem_append_right _ (List.mem_append_right _ (List.mem_append_right _ (List.mem_append_left _ (List.mem_of_getElem? (i := 8) rfl)))))), List.forall_mem_cons.mpr ⟨List.mem_cons_of_mem _ (List.mem_append_left _ (List.mem_append_right _ (List.mem_append_right _ (List.mem_append_right _ (List.mem_append_left _ (List.mem_of_getElem? (i := 9) rfl)))))), List.forall_mem_cons.mpr ⟨List.mem_cons_of_mem _ (List.mem_append_left _ (List.mem_append_right _ (List.mem_append_right _ (List.mem_append_right _ (List.mem_append_left _ (List.mem_of_getElem? (i := 10) rfl)))))), List.forall_mem_cons.mpr ⟨List.mem_cons_of_mem _ (List.mem_append_left _ (List.mem_append_right _ (List.mem_append_right _ (List.mem_append_right _ (List.mem_append_left _ (List.mem_of_getElem? (i := 11) rfl)))))), List.forall_mem_cons.mpr ⟨List.mem_cons_of_mem _ (List.mem_append_left _ (List.mem_append_right _ (List.mem_append_right _ (List.mem_append_right _ (List.mem_append_left _ (List.mem_of_getElem? (i := 12) rfl)))))), List.forall_mem_cons.mpr ⟨List.mem_cons_of_mem _ (List.mem_append_left _ (List.mem_append_right _ (List.mem_append_right _ (List.mem_append_right _ (List.mem_append_left _ (List.mem_of_getElem? (i := 13) rfl)))))), nowords_in⟩⟩⟩⟩⟩⟩⟩⟩⟩⟩⟩⟩⟩⟩⟩⟩⟩⟩⟩⟩⟩⟩⟩⟩, List.forall_mem_cons.mpr ⟨List.mem_cons_of_mem _ (List.mem_append_left _ (List.mem_append_right _ (List.mem_append_right _ (List.mem_append_right _ (List.mem_append_left _ (List.mem_of_getElem? (i := 14) rfl)))))), List.forall_mem_cons.mpr ⟨List.mem_cons_of_mem _ (List.mem_append_left _ (List.mem_append_right _ (List.mem_append_right _ (List.mem_append_right _ (List.mem_append_left _ (List.mem_of_getElem? (i := 15) rfl)))))), List.forall_mem_cons.mpr ⟨List.mem_cons_of_mem _ (List.mem_append_left _ (List.mem_append_right _ (List.mem_append_right _ (List.mem_append_right _ (List.mem_append_left _ (List.mem_of_getElem? (i := 16) rfl)))))), List.forall_mem_cons.mpr ⟨List.mem_cons_of_mem _ (List.mem_append_left _ (List.mem_append_right _ (List.mem_append_right _ (List.mem_append_right _ (List.mem_append_left _ (List.mem_of_getElem? (i := 17) rfl)))))), List.forall_mem_cons.mpr ⟨List.mem_cons_of_mem _ (List.mem_append_left _ (List.mem_append_right _ (List.mem_append_right _ (List.mem_append_right _ (List.mem_append_left _ (List.mem_of_getElem? (i := 18) rfl)))))), List.forall_mem_cons.mpr ⟨List.mem_cons_of_mem _ (List.mem_append_left _ (List.mem_append_right _ (List.mem_append_right _ (List.mem_append_right _ (List.mem_append_left _ (List.mem_of_getElem? (i := 19) rfl)))))), List.forall_mem_cons.mpr ⟨List.mem_cons_of_mem _ (List.mem_append_left _ (List.mem_append_right _ (List.mem_append_right _ (List.mem_append_right _ (List.mem_append_left _ (List.mem_of_getElem? (i := 20) rfl)))))), List.forall_mem_cons.mpr ⟨List.mem_cons_of_mem _ (List.mem_append_left _ (List.mem_append_right _ (List.mem_append_right _ (List.mem_append_right _ (List.mem_append_left _ (List.mem_of_getElem? (i := 21) rfl)))))), List.forall_mem_cons.mpr ⟨List.mem_cons_of_mem _ (List.mem_append_left _ (List.mem_append_right _ (List.mem_append_right _ (List.mem_append_right _ (List.mem_append_left _ (List.mem_of_getElem? (i := 22) rfl)))))), List.forall_mem_cons.mpr ⟨List.mem_cons_of_mem _ (List.mem_append_left _ (List.mem_append_right _ (List.mem_append_right _ (List.mem_append_right _ (List.mem_append_left _ (List.mem_of_getElem? (i := 23) rfl)))))), List.forall_mem_cons.mpr ⟨List.mem_cons_of_mem _ (List.mem_append_left _ (List.mem_append_right _ (List.mem_append_right _ (List.mem_append_right _ (List.mem_append_right _ (List.mem_of_getElem? (i := 0) rfl)))))), List.forall_mem_cons.mpr ⟨List.mem_cons_of_mem _ (List.mem_append_left _ (List.mem_append_right _ (List.mem_append_right _ (List.mem_append_right _ (List.mem_append_right _ (List.mem_of_getElem? (i := 1) rfl)))))), List.forall_mem_cons.mpr ⟨List.mem_cons_of_mem _ (List.mem_append_left _ (List.mem_append_right _ (List.mem_append_right _ (List.mem_append_right _ (List.mem_append_right _ (List.mem_of_getElem? (i := 2) rfl)))))), List.forall_mem_cons.mpr ⟨List.mem_cons_of_mem _ (List.mem_append_left _ (List.mem_append_right _ (List.mem_append_right _ (List.mem_append_right _ (List.mem_append_right _ (List.mem_of_getElem? (i := 3) rfl)))))), List.forall_mem_cons.mpr ⟨List.mem_cons_of_mem _ (List.mem_append_left _ (List.mem_append_right _ (List.mem_append_right _ (List.mem_append_right _ (List.mem_append_right _ (List.mem_of_getElem? (i := 4) rfl)))))), nowords_in⟩⟩⟩⟩⟩⟩⟩⟩⟩⟩⟩⟩⟩⟩⟩⟩⟩⟩, (fun _ h => List.mem_cons_of_mem _ (List.mem_append_right _ (h)))⟩⟩)
set_option maxRecDepth 20000 in
theorem gX11_mean_X11_lives : GoodIn wsX11_mean (wsV RX11 410 RX11 yX11_lives wsX11_lives) := goodIn_app (goodIn_by gd_X11_mean (List.forall_mem_cons.mpr ⟨List.mem_cons_of_mem _ (List.mem_append_left _ (List.mem_append_left _ (List.mem_of_getElem? (i := 12) rfl))), List.forall_mem_cons.mpr ⟨List.mem_cons_of_mem _ (List.mem_append_left _ (List.mem_append_left _ (List.mem_of_getElem? (i := 13) rfl))), List.forall_mem_cons.mpr ⟨List.mem_cons_of_mem _ (List.mem_append_left _ (List.mem_append_left _ (List.mem_of_getElem? (i := 14) rfl))), List.forall_mem_cons.mpr ⟨List.mem_cons_of_mem _ (List.mem_append_left _ (List.mem_append_left _ (List.mem_of_getElem? (i := 5) rfl))), nowords_in⟩⟩⟩⟩)) ggX11_mean_X11_lives
set_option maxRecDepth 20000 in
theorem ggX11_mean_X11_keptOf : GoodIn wsX11_mean wsX11_keptOf := goodIn_by gd_X11_mean (List.forall_mem_cons.mpr ⟨List.mem_cons_of_mem _ (List.mem_append_left _ (List.mem_append_right _ (List.mem_append_right _ (List.mem_append_right _ (List.mem_append_right _ (List.mem_of_getElem? (i := 8) rfl)))))), List.forall_mem_append.mpr ⟨List.forall_mem_append.mpr ⟨List.forall_mem_cons.mpr ⟨List.mem_cons_of_mem _ (List.mem_append_left _ (List.mem_append_left _ (List.mem_of_getElem? (i := 2) rfl))), List.forall_mem_cons.mpr ⟨List.mem_cons_of_mem _ (List.mem_append_left _ (List.mem_append_right _ (List.mem_append_right _ (List.mem_append_right _ (List.mem_append_left _ (List.mem_of_getElem? (i := 21) rfl)))))), List.forall_mem_cons.mpr ⟨List.mem_cons_of_mem _ (List.mem_append_left _ (List.mem_append_right _ (List.mem_append_right _ (List.mem_append_right _ (List.mem_append_left _ (List.mem_of_getElem? (i := 22) rfl)))))), List.forall_mem_cons.mpr ⟨List.mem_cons_of_mem _ (List.mem_append_left _ (List.mem_append_right _ (List.mem_append_right _ (List.mem_append_right _ (List.mem_append_left _ (List.mem_of_getElem? (i := 23) rfl)))))), List.forall_mem_cons.mpr ⟨List.mem_cons_of_mem _ (List.mem_append_left _ (List.mem_append_left _ (List.mem_of_getElem? (i := 5) rfl))), List.forall_mem_cons.mpr ⟨List.mem_cons_of_mem _ (List.mem_append_left _ (List.mem_append_right _ (List.mem_append_right _ (List.mem_append_right _ (List.mem_append_right _ (List.mem_of_getElem? (i := 0) rfl)))))), List.forall_mem_cons.mpr ⟨List.mem_cons_of_mem _ (List.mem_append_left _ (List.mem_append_right _ (List.mem_append_right _ (List.mem_append_right _ (List.mem_append_left _ (List.mem_of_getElem? (i := 7) rfl)))))), List.forall_mem_cons.mpr ⟨List.mem_cons_of_mem _ (List.mem_append_left _ (List.mem_append_right _ (List.mem_append_right _ (List.mem_append_right _ (List.mem_append_left _ (List.mem_of_getElem? (i := 8) rfl)))))), List.forall_mem_cons.mpr ⟨List.mem_cons_of_mem _ (List.mem_append_left _ (List.mem_append_right _ (List.mem_append_right _ (List.mem_append_right _ (List.mem_append_left _ (List.mem_of_getElem? (i := 9) rfl)))))), List.forall_mem_cons.mpr ⟨List.mem_cons_of_mem _ (List.mem_append_left _ (List.mem_append_right _ (List.mem_append_right _ (List.mem_append_right _ (List.mem_append_left _ (List.mem_of_getElem? (i := 10) rfl)))))), List.forall_mem_cons.mpr ⟨List.mem_cons_of_mem _ (List.mem_append_left _ (List.mem_append_right _ (List.mem_append_right _ (List.mem_append_right _ (List.mem_append_left _ (List.mem_of_getElem? (i := 11) rfl)))))), List.forall_mem_cons.mpr ⟨List.mem_cons_of_mem _ (List.mem_append_left _ (List.mem_append_right _ (List.mem_append_right _ (List.mem_append_right _ (List.mem_append_left _ (List.mem_of_getElem? (i := 12) rfl)))))), List.forall_mem_cons.mpr ⟨List.mem_cons_of_mem _ (List.mem_append_left _ (List.mem_append_right _ (List.mem_append_right _ (List.mem_append_left _ (List.mem_of_getElem? (i := 0) rfl))))), List.forall_mem_cons.mpr ⟨List.mem_cons_of_mem _ (List.mem_append_left _ (List.mem_append_right _ (List.mem_append_right _ (List.mem_append_left _ (List.mem_of_getElem? (i := 1) rfl))))), List.forall_mem_cons.mpr ⟨List.mem_cons_of_mem _ (List.mem_append_left _ (List.mem_append_right _ (List.mem_append_right _ (List.mem_append_left _ (List.mem_of_getElem? (i := 2) rfl))))), List.forall_mem_cons.mpr ⟨List.mem_cons_of_mem _ (List.mem_append_left _ (List.mem_append_right _ (List.mem_append_right _ (List.mem_append_left _ (List.mem_of_getElem? (i := 3) rfl))))), List.forall_mem_cons.mpr ⟨List.mem_cons_of_mem _ (List.mem_append_left _ (List.mem_append_right _ (List.mem_append_right _ (List.mem_append_left _ (List.mem_of_getElem? (i := 4) rfl))))), List.forall_mem_cons.mpr ⟨List.mem_cons_of_mem _ (List.mem_append_left _ (List.mem_append_right _ (List.mem_append_right _ (List.mem_append_left _ (List.mem_of_getElem? (i := 5) rfl))))), List.forall_mem_cons.mpr ⟨List.mem_cons_of_mem _ (List.mem_append_left _ (List.mem_append_right _ (List.mem_append_right _ (List.mem_append_left _ (List.mem_of_getElem? (i := 6) rfl))))), List.forall_mem_cons.mpr ⟨List.mem_cons_of_mem _ (List.mem_append_left _ (List.mem_append_right _ (List.mem_append_right _ (List.mem_append_left _ (List.mem_of_getElem? (i := 7) rfl))))), List.forall_mem_cons.mpr ⟨List.mem_cons_of_mem _ (List.mem_append_left _ (List.mem_append_right _ (List.mem_append_right _ (List.mem_append_left _ (List.mem_of_getElem? (i := 8) rfl))))), List.forall_mem_cons.mpr ⟨List.mem_cons_of_mem _ (List.mem_append_left _ (List.mem_append_right _ (List.mem_append_right _ (List.mem_append_left _ (List.mem_of_getElem? (i := 9) rfl))))), List.forall_mem_cons.mpr ⟨List.mem_cons_of_mem _ (List.mem_append_left _ (List.mem_append_right _ (List.mem_append_right _ (List.mem_append_left _ (List.mem_of_getElem? (i := 10) rfl))))), List.forall_mem_cons.mpr ⟨List.mem_cons_of_mem _ (List.mem_append_left _ (List.mem_append_right _ (List.mem_append_right _ (List.mem_append_left _ (List.mem_of_getElem? (i := 15) rfl))))), nowords_in⟩⟩⟩⟩⟩⟩⟩⟩⟩⟩⟩⟩⟩⟩⟩⟩⟩⟩⟩⟩⟩⟩⟩⟩, List.forall_mem_cons.mpr ⟨List.mem_cons_of_mem _ (List.mem_append_left _ (List.mem_append_right _ (List.mem_append_right _ (List.mem_append_left _ (List.mem_of_getElem? (i := 16) rfl))))), List.forall_mem_cons.mpr ⟨List.mem_cons_of_mem _ (List.mem_append_left _ (List.mem_append_right _ (List.mem_append_right _ (List.mem_append_left _ (List.mem_of_getElem? (i := 17) rfl))))), List.forall_mem_cons.mpr ⟨List.mem_cons_of_mem _ (List.mem_append_left _ (List.mem_append_right _ (List.mem_append_right _ (List.mem_append_left _ (List.mem_of_getElem? (i := 18) rfl))))), List.forall_mem_cons.mpr ⟨List.mem_cons_of_mem _ (List.mem_append_left _ (List.mem_append_right _ (List.mem_append_left _ (List.mem_of_getElem? (i := 13) rfl)))), List.forall_mem_cons.mpr ⟨List.mem_cons_of_mem _ (List.mem_append_left _ (List.mem_append_right _ (List.mem_append_left _ (List.mem_of_getElem? (i := 14) rfl)))), List.forall_mem_cons.mpr ⟨List.mem_cons_of_mem _ (List.mem_append_left _ (List.mem_append_right _ (List.mem_append_left _ (List.mem_of_getElem? (i := 15) rfl)))), List.forall_mem_cons.mpr ⟨List.mem_cons_of_mem _ (List.mem_append_left _ (List.mem_append_right _ (List.mem_append_right _ (List.mem_append_right _ (List.mem_append_right _ (List.mem_of_getElem? (i := 9) rfl)))))), List.forall_mem_cons.mpr ⟨List.mem_cons_of_mem _ (List.mem_append_left _ (List.mem_append_right _ (List.mem_append_right _ (List.mem_append_right _ (List.mem_append_right _ (List.mem_of_getElem? (i := 10) rfl)))))), List.forall_mem_cons.mpr ⟨List.mem_cons_of_mem _ (List.mem_append_left _ (List.mem_append_right _ (List.mem_append_right _ (List.mem_append_right _ (List.mem_append_right _ (List.mem_of_getElem? (i := 11) rfl)))))), List.forall_mem_cons.mpr ⟨List.mem_cons_of_mem _ (List.mem_append_left _ (List.mem_append_right _ (List.mem_append_right _ (List.mem_append_right _ (List.mem_append_right _ (List.mem_of_getElem? (i := 12) rfl)))))), nowords_in⟩⟩⟩⟩⟩⟩⟩⟩⟩⟩⟩, (fun _ h => List.mem_cons_of_mem _ (List.mem_append_right _ (h)))⟩⟩)
set_option maxRecDepth 20000 in
theorem gX11_mean_X11_keptOf : GoodIn wsX11_mean (wsV RX11 338 RX11 yX11_keptOf wsX11_keptOf) := goodIn_app (goodIn_by gd_X11_mean (List.forall_mem_cons.mpr ⟨List.mem_cons_of_mem _ (List.mem_append_left _ (List.mem_append_right _ (List.mem_append_right _ (List.mem_append_right _ (List.mem_append_right _ (List.mem_of_getElem? (i := 5) rfl)))))), List.forall_mem_cons.mpr ⟨List.mem_cons_of_mem _ (List.mem_append_left _ (List.mem_append_right _ (List.mem_append_right _ (List.mem_append_right _ (List.mem_append_right _ (List.mem_of_getElem? (i := 6) rfl)))))), List.forall_mem_cons.mpr ⟨List.mem_cons_of_mem _ (List.mem_append_left _ (List.mem_append_right _ (List.mem_append_right _ (List.mem_append_right _ (List.mem_append_right _ (List.mem_of_getElem? (i := 7) rfl)))))), List.forall_mem_cons.mpr ⟨List.mem_cons_of_mem _ (List.mem_append_left _ (List.mem_append_left _ (List.mem_of_getElem? (i := 5) rfl))), nowords_in⟩⟩⟩⟩)) ggX11_mean_X11_keptOf
set_option maxRecDepth 20000 in
theorem ggX11_mean_X11_tellsBy : GoodIn wsX11_mean wsX11_tellsBy := goodIn_by gd_X11_mean (List.forall_mem_cons.mpr ⟨List.mem_cons_of_mem _ (List.mem_append_left _ (List.mem_append_right _ (List.mem_append_right _ (List.mem_append_right _ (List.mem_append_right _ (List.mem_of_getElem? (i := 16) rfl)))))), List.forall_mem_append.mpr ⟨List.forall_mem_cons.mpr ⟨List.mem_cons_of_mem _ (List.mem_append_left _ (List.mem_append_right _ (List.mem_append_right _ (List.mem_append_right _ (List.mem_append_right _ (List.mem_of_getElem? (i := 17) rfl)))))), List.forall_mem_cons.mpr ⟨List.mem_cons_of_mem _ (List.mem_append_left _ (List.mem_append_right _ (List.mem_append_right _ (List.mem_append_right _ (List.mem_append_right _ (List.mem_of_getElem? (i := 18) rfl)))))), List.forall_mem_cons.mpr ⟨List.mem_cons_of_mem _ (List.mem_append_left _ (List.mem_append_left _ (List.mem_of_getElem? (i := 7) rfl))), List.forall_mem_cons.mpr ⟨List.mem_cons_of_mem _ (List.mem_append_left _ (List.mem_append_left _ (List.mem_of_getElem? (i := 8) rfl))), List.forall_mem_cons.mpr ⟨List.mem_cons_of_mem _ (List.mem_append_left _ (List.mem_append_left _ (List.mem_of_getElem? (i := 9) rfl))), List.forall_mem_cons.mpr ⟨List.mem_cons_of_mem _ (List.mem_append_left _ (List.mem_append_left _ (List.mem_of_getElem? (i := 5) rfl))), List.forall_mem_cons.mpr ⟨List.mem_cons_of_mem _ (List.mem_append_left _ (List.mem_append_left _ (List.mem_of_getElem? (i := 10) rfl))), List.forall_mem_cons.mpr ⟨List.mem_cons_of_mem _ (List.mem_append_left _ (List.mem_append_left _ (List.mem_of_getElem? (i := 11) rfl))), nowords_in⟩⟩⟩⟩⟩⟩⟩⟩, (fun _ h => List.mem_cons_of_mem _ (List.mem_append_right _ (h)))⟩⟩)
set_option maxRecDepth 20000 in
theorem gX11_mean_X11_tellsBy : GoodIn wsX11_mean (wsV RX11 334 RX11 yX11_tellsBy wsX11_tellsBy) := goodIn_app (goodIn_by gd_X11_mean (List.forall_mem_cons.mpr ⟨List.mem_cons_of_mem _ (List.mem_append_left _ (List.mem_append_right _ (List.mem_append_right _ (List.mem_append_right _ (List.mem_append_right _ (List.mem_of_getElem? (i := 13) rfl)))))), List.forall_mem_cons.mpr ⟨List.mem_cons_of_mem _ (List.mem_append_left _ (List.mem_append_right _ (List.mem_append_right _ (List.mem_append_right _ (List.mem_append_right _ (List.mem_of_getElem? (i := 14) rfl)))))), List.forall_mem_cons.mpr ⟨List.mem_cons_of_mem _ (List.mem_append_left _ (List.mem_append_right _ (List.mem_append_right _ (List.mem_append_right _ (List.mem_append_right _ (List.mem_of_getElem? (i := 15) rfl)))))), List.forall_mem_cons.mpr ⟨List.mem_cons_of_mem _ (List.mem_append_left _ (List.mem_append_left _ (List.mem_of_getElem? (i := 5) rfl))), nowords_in⟩⟩⟩⟩)) ggX11_mean_X11_tellsBy
theorem dX11_mean_0 : decode cX11_mean 0 = .ok (.iload_n 1, 1) := by decide +kernel
theorem dX11_mean_1 : decode cX11_mean 1 = .ok (.i2l, 1) := by decide +kernel
theorem dX11_mean_2 : decode cX11_mean 2 = .ok (.lconst 0, 1) := by decide +kernel
theorem dX11_mean_3 : decode cX11_mean 3 = .ok (.ldc2_w 280, 3) := by decide +kernel
theorem dX11_mean_6 : decode cX11_mean 6 = .ok (.invokestatic 282, 3) := by decide +kernel
theorem dX11_mean_9 : decode cX11_mean 9 = .ok (.ifCond .eq 26, 3) := by decide +kernel
theorem dX11_mean_12 : decode cX11_mean 12 = .ok (.iload_n 2, 1) := by decide +kernel
theorem dX11_mean_13 : decode cX11_mean 13 = .ok (.i2l, 1) := by decide +kernel
theorem dX11_mean_14 : decode cX11_mean 14 = .ok (.lconst 1, 1) := by decide +kernel
theorem dX11_mean_15 : decode cX11_mean 15 = .ok (.ldc2_w 416, 3) := by decide +kernel
theorem dX11_mean_18 : decode cX11_mean 18 = .ok (.invokestatic 282, 3) := by decide +kernel
theorem dX11_mean_21 : decode cX11_mean 21 = .ok (.ifCond .eq 14, 3) := by decide +kernel
theorem dX11_mean_24 : decode cX11_mean 24 = .ok (.iload_n 1, 1) := by decide +kernel
theorem dX11_mean_25 : decode cX11_mean 25 = .ok (.iload_n 2, 1) := by decide +kernel
theorem dX11_mean_26 : decode cX11_mean 26 = .ok (.iadd, 1) := by decide +kernel
theorem dX11_mean_27 : decode cX11_mean 27 = .ok (.iconst 1, 1) := by decide +kernel
theorem dX11_mean_28 : decode cX11_mean 28 = .ok (.isub, 1) := by decide +kernel
theorem dX11_mean_29 : decode cX11_mean 29 = .ok (.sipush 9999, 3) := by decide +kernel
theorem dX11_mean_32 : decode cX11_mean 32 = .ok (.if_icmp .le 9, 3) := by decide +kernel
theorem dX11_mean_35 : decode cX11_mean 35 = .ok (.aload_n 0, 1) := by decide +kernel
theorem dX11_mean_36 : decode cX11_mean 36 = .ok (.iconst 1, 1) := by decide +kernel
theorem dX11_mean_37 : decode cX11_mean 37 = .ok (.invokevirtual 82, 3) := by decide +kernel
theorem dX11_mean_40 : decode cX11_mean 40 = .ok (.ireturn, 1) := by decide +kernel
theorem dX11_mean_41 : decode cX11_mean 41 = .ok (.aload_n 0, 1) := by decide +kernel
theorem dX11_mean_42 : decode cX11_mean 42 = .ok (.getfield 7, 3) := by decide +kernel
theorem dX11_mean_45 : decode cX11_mean 45 = .ok (.iconst 3, 1) := by decide +kernel
theorem dX11_mean_46 : decode cX11_mean 46 = .ok (.iaload, 1) := by decide +kernel
theorem dX11_mean_47 : decode cX11_mean 47 = .ok (.iconst (-1), 1) := by decide +kernel
theorem dX11_mean_48 : decode cX11_mean 48 = .ok (.if_icmp .ne 10, 3) := by decide +kernel
theorem dX11_mean_51 : decode cX11_mean 51 = .ok (.aload_n 0, 1) := by decide +kernel
theorem dX11_mean_52 : decode cX11_mean 52 = .ok (.bipush 6, 2) := by decide +kernel
theorem dX11_mean_54 : decode cX11_mean 54 = .ok (.invokevirtual 82, 3) := by decide +kernel
theorem dX11_mean_57 : decode cX11_mean 57 = .ok (.ireturn, 1) := by decide +kernel
theorem dX11_mean_58 : decode cX11_mean 58 = .ok (.iconst 0, 1) := by decide +kernel
theorem dX11_mean_59 : decode cX11_mean 59 = .ok (.istore_n 3, 1) := by decide +kernel
theorem dX11_mean_60 : decode cX11_mean 60 = .ok (.iload_n 3, 1) := by decide +kernel
theorem dX11_mean_61 : decode cX11_mean 61 = .ok (.sipush 670, 3) := by decide +kernel
theorem dX11_mean_64 : decode cX11_mean 64 = .ok (.if_icmp .ge 25, 3) := by decide +kernel
theorem dX11_mean_67 : decode cX11_mean 67 = .ok (.aload_n 0, 1) := by decide +kernel
theorem dX11_mean_68 : decode cX11_mean 68 = .ok (.getfield 7, 3) := by decide +kernel
theorem dX11_mean_71 : decode cX11_mean 71 = .ok (.sipush 5200, 3) := by decide +kernel
theorem dX11_mean_74 : decode cX11_mean 74 = .ok (.iload_n 3, 1) := by decide +kernel
theorem dX11_mean_75 : decode cX11_mean 75 = .ok (.iadd, 1) := by decide +kernel
theorem dX11_mean_76 : decode cX11_mean 76 = .ok (.aload_n 0, 1) := by decide +kernel
theorem dX11_mean_77 : decode cX11_mean 77 = .ok (.getfield 7, 3) := by decide +kernel
theorem dX11_mean_80 : decode cX11_mean 80 = .ok (.iload_n 3, 1) := by decide +kernel
theorem dX11_mean_81 : decode cX11_mean 81 = .ok (.iaload, 1) := by decide +kernel
theorem dX11_mean_82 : decode cX11_mean 82 = .ok (.iastore, 1) := by decide +kernel
theorem dX11_mean_83 : decode cX11_mean 83 = .ok (.iinc 3 1, 3) := by decide +kernel
theorem dX11_mean_86 : decode cX11_mean 86 = .ok (.goto (-26), 3) := by decide +kernel
theorem dX11_mean_89 : decode cX11_mean 89 = .ok (.lconst 0, 1) := by decide +kernel
theorem dX11_mean_90 : decode cX11_mean 90 = .ok (.lstore_n 3, 1) := by decide +kernel
theorem dX11_mean_91 : decode cX11_mean 91 = .ok (.iconst 0, 1) := by decide +kernel
theorem dX11_mean_92 : decode cX11_mean 92 = .ok (.istore 5, 2) := by decide +kernel
theorem dX11_mean_94 : decode cX11_mean 94 = .ok (.iload 5, 2) := by decide +kernel
theorem dX11_mean_96 : decode cX11_mean 96 = .ok (.iload_n 2, 1) := by decide +kernel
theorem dX11_mean_97 : decode cX11_mean 97 = .ok (.if_icmp .ge 60, 3) := by decide +kernel
theorem dX11_mean_100 : decode cX11_mean 100 = .ok (.aload_n 0, 1) := by decide +kernel
theorem dX11_mean_101 : decode cX11_mean 101 = .ok (.iload_n 1, 1) := by decide +kernel
theorem dX11_mean_102 : decode cX11_mean 102 = .ok (.iload 5, 2) := by decide +kernel
theorem dX11_mean_104 : decode cX11_mean 104 = .ok (.iadd, 1) := by decide +kernel
theorem dX11_mean_105 : decode cX11_mean 105 = .ok (.invokevirtual 410, 3) := by decide +kernel
theorem dX11_mean_108 : decode cX11_mean 108 = .ok (.lload_n 3, 1) := by decide +kernel
theorem dX11_mean_109 : decode cX11_mean 109 = .ok (.aload_n 0, 1) := by decide +kernel
theorem dX11_mean_110 : decode cX11_mean 110 = .ok (.invokevirtual 338, 3) := by decide +kernel
theorem dX11_mean_113 : decode cX11_mean 113 = .ok (.i2l, 1) := by decide +kernel
theorem dX11_mean_114 : decode cX11_mean 114 = .ok (.ladd, 1) := by decide +kernel
theorem dX11_mean_115 : decode cX11_mean 115 = .ok (.lstore_n 3, 1) := by decide +kernel
theorem dX11_mean_116 : decode cX11_mean 116 = .ok (.iconst 0, 1) := by decide +kernel
theorem dX11_mean_117 : decode cX11_mean 117 = .ok (.istore 6, 2) := by decide +kernel
theorem dX11_mean_119 : decode cX11_mean 119 = .ok (.iload 6, 2) := by decide +kernel
theorem dX11_mean_121 : decode cX11_mean 121 = .ok (.sipush 670, 3) := by decide +kernel
theorem dX11_mean_124 : decode cX11_mean 124 = .ok (.if_icmp .ge 27, 3) := by decide +kernel
theorem dX11_mean_127 : decode cX11_mean 127 = .ok (.aload_n 0, 1) := by decide +kernel
theorem dX11_mean_128 : decode cX11_mean 128 = .ok (.getfield 7, 3) := by decide +kernel
theorem dX11_mean_131 : decode cX11_mean 131 = .ok (.iload 6, 2) := by decide +kernel
theorem dX11_mean_133 : decode cX11_mean 133 = .ok (.aload_n 0, 1) := by decide +kernel
theorem dX11_mean_134 : decode cX11_mean 134 = .ok (.getfield 7, 3) := by decide +kernel
theorem dX11_mean_137 : decode cX11_mean 137 = .ok (.sipush 5200, 3) := by decide +kernel
theorem dX11_mean_140 : decode cX11_mean 140 = .ok (.iload 6, 2) := by decide +kernel
theorem dX11_mean_142 : decode cX11_mean 142 = .ok (.iadd, 1) := by decide +kernel
theorem dX11_mean_143 : decode cX11_mean 143 = .ok (.iaload, 1) := by decide +kernel
theorem dX11_mean_144 : decode cX11_mean 144 = .ok (.iastore, 1) := by decide +kernel
theorem dX11_mean_145 : decode cX11_mean 145 = .ok (.iinc 6 1, 3) := by decide +kernel
theorem dX11_mean_148 : decode cX11_mean 148 = .ok (.goto (-29), 3) := by decide +kernel
theorem dX11_mean_151 : decode cX11_mean 151 = .ok (.iinc 5 1, 3) := by decide +kernel
theorem dX11_mean_154 : decode cX11_mean 154 = .ok (.goto (-60), 3) := by decide +kernel
theorem dX11_mean_157 : decode cX11_mean 157 = .ok (.aload_n 0, 1) := by decide +kernel
theorem dX11_mean_158 : decode cX11_mean 158 = .ok (.lload_n 3, 1) := by decide +kernel
theorem dX11_mean_159 : decode cX11_mean 159 = .ok (.iload_n 2, 1) := by decide +kernel
theorem dX11_mean_160 : decode cX11_mean 160 = .ok (.i2l, 1) := by decide +kernel
theorem dX11_mean_161 : decode cX11_mean 161 = .ok (.invokevirtual 334, 3) := by decide +kernel
theorem dX11_mean_164 : decode cX11_mean 164 = .ok (.ireturn, 1) := by decide +kernel
abbrev rmX11_mean : Room := { frames := 7, cells := 0, slots := 0, locals := 158 }
set_option maxHeartbeats 4000000 in
set_option maxRecDepth 100000 in
theorem kX11_mean (l : Launch) (D : va_G) (cy : Nat → ClassId) (h0 : Nat) (a0 : Nat → Nat) (s0 : Rc) (p1 : Int32) (p2 : Int32) (res : Int32 × Rc) (h : fX11_mean p1 p2 s0 = some res) : CZ l D cy yX11_mean wsX11_mean rmX11_mean [.ref h0, .int p1, .int p2] (flat [WX11 cy h0 a0 s0]) (flat [WX11 cy h0 a0 res.2]) res.1 := by
  refine CZ.of (cc := cX11_mean) (maxL := 7) (by decide) rfl (Nat.le_of_ble_eq_true rfl) ?_
  intro p e s m args below meth c A QQ ls E hr
  obtain ⟨hx, hb, hml, hown, hts, hK, hN, hP, hD, hA, hl⟩ := E
  have hret : ∀ (pc : Nat) (H : Heap) (locs : List Loc) (ls : Array Slot) (u : Int32 × Rc), u = res → va_P D vwCl (flat [WX11 cy h0 a0 u.2]) H → va_D A (flat [WX11 cy h0 a0 u.2]) → va_S A s.heap H locs → isb u.1 = true → decode cX11_mean pc = .ok (.ireturn, 1) → W p l e rmX11_mean s m args below meth c H locs 0 0 QQ (F0 m pc ls [.int u.1]) := by
    intro pc H locs ls u hu hP hD hS hz hd; subst hu; exact hr pc H locs ls _ rfl hP hD hS hz hd
  clear hr
  have hl : lv_has ls 7 [(0, .ref h0), (1, .int p1), (2, .int p2)] := hl
  have hinX11 : ∀ w ∈ wsX110, w ∈ wsX11_mean := fun _ h => List.mem_cons_of_mem _ (List.mem_append_right _ h)
  unfold fX11_mean at h
  suffices key : ∀ (H : Heap) (locs : List Loc), va_P D vwCl (flat [WX11 cy h0 a0 s0]) H → va_S A s.heap H locs → W p l e rmX11_mean s m args below meth c H locs 0 0 QQ (F0 m 0 ls []) from key _ _ hP va_S.rf
  clear hP
  intro H locs hP hS
  refine lv_iload_n hx hb dX11_mean_0 rfl (lv_at hl 1 rfl) ?_
  refine lv_i2l hx hb dX11_mean_1 rfl ?_
  refine lv_lconst (v := 0) hx hb dX11_mean_2 (by decide) ?_
  refine lv_ldc2 (v := 9999) hx hb hown (hts (.constantLong RX11 280 (9999)) (List.mem_of_getElem? (i := 1) rfl)) dX11_mean_3 ?_
  refine ca_z (w' := [WX11 cy h0 a0 s0]) (rn_S (As := [.long p1.toInt64, .long (0 : Int64), .long (9999 : Int64)]) (rest := []) ⟨hx, hb, hml, hown, hts⟩ (kX11_isFrom l D cy p1.toInt64 (0 : Int64) (9999 : Int64) _ rfl H.size) (va_cwS 3 hts gX11_mean_X11_isFrom rfl rfl rfl (by decide +kernel) ⟨Nat.le_of_ble_eq_true rfl, Nat.le_of_ble_eq_true rfl⟩) hK hN hP hD [] rfl rfl rfl hl.1 rfl (Nat.le_of_ble_eq_true rfl) dX11_mean_6 ⟨Nat.le_refl 0, Nat.le_refl 0⟩) hP hD hS hA [] ⟨rfl, rfl, rfl, rfl⟩ (fun b1 H locs hP hD hS => ?_)
  refine lv_if_eq (tgt := 35) hx hb dX11_mean_9 (by decide) (fun c2 => ?_) (fun c2 => ?_)
  · replace h := (if_pos c2).symm.trans h
    refine lv_aload_n hx hb dX11_mean_35 rfl (lv_at hl 0 rfl) ?_
    refine lv_iconst (v := 1) hx hb dX11_mean_36 (by decide) ?_
    obtain ⟨r3, hr3, h⟩ := lt_elim h
    refine ca_z (w' := [WX11 cy h0 a0 r3.2]) (rn_V (As := [.int (1 : Int32)]) (rest := []) ⟨hx, hb, hml, hown, hts⟩ (kX11_is l D cy h0 a0 s0 (1 : Int32) r3 hr3.symm H.size) (cwV 1 hts gX11_mean_X11_is rfl rfl rfl (by decide +kernel) ⟨Nat.le_of_ble_eq_true rfl, Nat.le_of_ble_eq_true rfl⟩) hK hN hP hD [0] rfl rfl (ci := 11) (q0 := 0) rfl rfl rfl rfl hl.1 rfl (Nat.le_of_ble_eq_true rfl) dX11_mean_37 ⟨Nat.le_refl 0, Nat.le_refl 0⟩) hP hD hS hA [0] ⟨rfl, rfl, rfl, rfl⟩ (fun b4 H locs hP hD hS => ?_)
    exact hret 40 H locs ls (r3.1, r3.2) (Option.some.inj h) hP hD hS b4 dX11_mean_40
  · replace h := (if_neg c2).symm.trans h
    refine lv_iload_n hx hb dX11_mean_12 rfl (lv_at hl 2 rfl) ?_
    refine lv_i2l hx hb dX11_mean_13 rfl ?_
    refine lv_lconst (v := 1) hx hb dX11_mean_14 (by decide) ?_
    refine lv_ldc2 (v := 20) hx hb hown (hts (.constantLong RX11 416 (20)) (List.mem_of_getElem? (i := 2) rfl)) dX11_mean_15 ?_
    refine ca_z (w' := [WX11 cy h0 a0 s0]) (rn_S (As := [.long p2.toInt64, .long (1 : Int64), .long (20 : Int64)]) (rest := []) ⟨hx, hb, hml, hown, hts⟩ (kX11_isFrom l D cy p2.toInt64 (1 : Int64) (20 : Int64) _ rfl H.size) (va_cwS 3 hts gX11_mean_X11_isFrom rfl rfl rfl (by decide +kernel) ⟨Nat.le_of_ble_eq_true rfl, Nat.le_of_ble_eq_true rfl⟩) hK hN hP hD [] rfl rfl rfl hl.1 rfl (Nat.le_of_ble_eq_true rfl) dX11_mean_18 ⟨Nat.le_refl 0, Nat.le_refl 0⟩) hP hD hS hA [] ⟨rfl, rfl, rfl, rfl⟩ (fun b5 H locs hP hD hS => ?_)
    refine lv_if_eq (tgt := 35) hx hb dX11_mean_21 (by decide) (fun c6 => ?_) (fun c6 => ?_)
    · replace h := (if_pos c6).symm.trans h
      refine lv_aload_n hx hb dX11_mean_35 rfl (lv_at hl 0 rfl) ?_
      refine lv_iconst (v := 1) hx hb dX11_mean_36 (by decide) ?_
      obtain ⟨r7, hr7, h⟩ := lt_elim h
      refine ca_z (w' := [WX11 cy h0 a0 r7.2]) (rn_V (As := [.int (1 : Int32)]) (rest := []) ⟨hx, hb, hml, hown, hts⟩ (kX11_is l D cy h0 a0 s0 (1 : Int32) r7 hr7.symm H.size) (cwV 1 hts gX11_mean_X11_is rfl rfl rfl (by decide +kernel) ⟨Nat.le_of_ble_eq_true rfl, Nat.le_of_ble_eq_true rfl⟩) hK hN hP hD [0] rfl rfl (ci := 11) (q0 := 0) rfl rfl rfl rfl hl.1 rfl (Nat.le_of_ble_eq_true rfl) dX11_mean_37 ⟨Nat.le_refl 0, Nat.le_refl 0⟩) hP hD hS hA [0] ⟨rfl, rfl, rfl, rfl⟩ (fun b8 H locs hP hD hS => ?_)
      exact hret 40 H locs ls (r7.1, r7.2) (Option.some.inj h) hP hD hS b8 dX11_mean_40
    · replace h := (if_neg c6).symm.trans h
      refine lv_iload_n hx hb dX11_mean_24 rfl (lv_at hl 1 rfl) ?_
      refine lv_iload_n hx hb dX11_mean_25 rfl (lv_at hl 2 rfl) ?_
      refine lv_iadd hx hb dX11_mean_26 ?_
      refine lv_iconst (v := 1) hx hb dX11_mean_27 (by decide) ?_
      refine lv_isub hx hb dX11_mean_28 ?_
      refine lv_sipush (v := 9999) hx hb dX11_mean_29 (by decide) ?_
      refine lv_icmp_le (tgt := 41) hx hb dX11_mean_32 (by decide) (fun c9 => ?_) (fun c9 => ?_)
      · replace h := (if_pos c9).symm.trans h
        refine lv_aload_n hx hb dX11_mean_41 rfl (lv_at hl 0 rfl) ?_
        refine va_get (D := D) (ci := 11) (v := .ref (a0 0)) (C := RX11) (T := TX11) (N := 38) hx hb hts hinX11 hown hK hP 0 rfl rfl 0 (by decide) (hts (.fieldLink RX11 7 "KneeBenchModel" "at" "[I") (List.mem_of_getElem? (i := 3) rfl)) (fun _ h9 => h9) rfl dX11_mean_42 ?_
        refine lv_iconst (v := 3) hx hb dX11_mean_45 (by decide) ?_
        refine va_iald hx hb hK hP 1 1 rfl rfl (inb_in (by decide)) dX11_mean_46 ?_
        refine lv_iconst (v := -1) hx hb dX11_mean_47 (by decide) ?_
        refine lv_icmp_ne (tgt := 58) hx hb dX11_mean_48 (by decide) (fun c10 => ?_) (fun c10 => ?_)
        · replace h := (if_neg c10).symm.trans h
          refine lv_iconst (v := 0) hx hb dX11_mean_58 (by decide) ?_
          refine lv_istore_n (lv' := [(3, .int (0 : Int32)), (0, .ref h0), (1, .int p1), (2, .int p2)]) hx hb dX11_mean_59 rfl hl (by decide) rfl (fun ls hl => ?_)
          have L60 : ∀ (n : Nat) (q60 : Int32 × Rc) (o : Rc), loopO (fX11_mean_L60) n q60 = some o → ∀ (H : Heap) (locs : List Loc) (ls : Array Slot), lv_has ls 7 [(0, .ref h0), (1, .int p1), (2, .int p2), (3, .int q60.1)] → va_P D vwCl (flat [WX11 cy h0 a0 q60.2]) H → va_D A (flat [WX11 cy h0 a0 q60.2]) → va_S A s.heap H locs → ∀ (kk89 : ∀ (H : Heap) (locs : List Loc) (ls : Array Slot), lv_has ls 7 [(0, .ref h0), (1, .int p1), (2, .int p2)] → va_P D vwCl (flat [WX11 cy h0 a0 o]) H → va_D A (flat [WX11 cy h0 a0 o]) → va_S A s.heap H locs → W p l e rmX11_mean s m args below meth c H locs 0 0 QQ (F0 m 89 ls [])), W p l e rmX11_mean s m args below meth c H locs 0 0 QQ (F0 m 60 ls []) := by
            intro n
            induction n with
            | zero => intro q60 o h; exact absurd h (by rw [loopO_zero]; intro z; cases z)
            | succ n ih =>
              intro q60 o h H locs ls hl hP hD hS kk89
              obtain ⟨w, h, hgo, hst⟩ := loopO_elim h
              unfold fX11_mean_L60 at h
              refine lv_iload_n hx hb dX11_mean_60 rfl (lv_at hl 3 rfl) ?_
              refine lv_sipush (v := 670) hx hb dX11_mean_61 (by decide) ?_
              refine lv_icmp_ge (tgt := 89) hx hb dX11_mean_64 (by decide) (fun c11 => ?_) (fun c11 => ?_)
              · replace h := (if_pos c11).symm.trans h
                have eo := hst _ (Option.some.inj h).symm
                subst eo
                exact kk89 H locs ls (lv_sub hl [0, 1, 2] rfl) hP hD hS
              · replace h := (if_neg c11).symm.trans h
                refine lv_aload_n hx hb dX11_mean_67 rfl (lv_at hl 0 rfl) ?_
                refine va_get (D := D) (ci := 11) (v := .ref (a0 0)) (C := RX11) (T := TX11) (N := 38) hx hb hts hinX11 hown hK hP 0 rfl rfl 0 (by decide) (hts (.fieldLink RX11 7 "KneeBenchModel" "at" "[I") (List.mem_of_getElem? (i := 3) rfl)) (fun _ h9 => h9) rfl dX11_mean_68 ?_
                refine lv_sipush (v := 5200) hx hb dX11_mean_71 (by decide) ?_
                refine lv_iload_n hx hb dX11_mean_74 rfl (lv_at hl 3 rfl) ?_
                refine lv_iadd hx hb dX11_mean_75 ?_
                refine lv_aload_n hx hb dX11_mean_76 rfl (lv_at hl 0 rfl) ?_
                refine va_get (D := D) (ci := 11) (v := .ref (a0 0)) (C := RX11) (T := TX11) (N := 38) hx hb hts hinX11 hown hK hP 0 rfl rfl 0 (by decide) (hts (.fieldLink RX11 7 "KneeBenchModel" "at" "[I") (List.mem_of_getElem? (i := 3) rfl)) (fun _ h9 => h9) rfl dX11_mean_77 ?_
                refine lv_iload_n hx hb dX11_mean_80 rfl (lv_at hl 3 rfl) ?_
                obtain ⟨g12, h⟩ := gd_elim h
                refine va_iald hx hb hK hP 1 1 rfl rfl (inb_in g12) dX11_mean_81 ?_
                obtain ⟨g13, h⟩ := gd_elim h
                obtain ⟨s0_14, es, h⟩ := lt_elim h
                refine va_iast hx hb hK hP hD hS 1 1 rfl rfl (inb_in g13) dX11_mean_82 (fun H locs hP hD hS => ?_)
                have hP : va_P D vwCl (flat [WX11 cy h0 a0 s0_14]) H := by rw [es]; exact hP
                have hD : va_D A (flat [WX11 cy h0 a0 s0_14]) := by rw [es]; exact hD
                clear es
                refine lv_iinc (v := (q60.1 + (1 : Int32))) (lv' := [(3, .int (q60.1 + (1 : Int32))), (0, .ref h0), (1, .int p1), (2, .int p2)]) hx hb dX11_mean_83 hl (k := 3) rfl rfl (by decide) rfl (fun ls hl => ?_)
                refine lv_goto (tgt := 60) hx hb dX11_mean_86 (by decide) ?_
                exact ih _ o (hgo _ (Option.some.inj h).symm) H locs ls (lv_sub hl [1, 2, 3, 0] rfl) hP hD hS kk89
          obtain ⟨o60, ho60, h⟩ := bd_elim h
          obtain ⟨n60, hn60⟩ := loopF_some ho60
          refine L60 n60 _ o60 hn60 H locs ls (lv_sub hl [1, 2, 3, 0] rfl) hP hD hS (fun H locs ls hl hP hD hS => ?_)
          refine lv_lconst (v := 0) hx hb dX11_mean_89 (by decide) ?_
          refine lv_lstore_n (lv' := [(3, .long (0 : Int64)), (0, .ref h0), (1, .int p1), (2, .int p2)]) hx hb dX11_mean_90 rfl hl (by decide) rfl (fun ls hl => ?_)
          refine lv_iconst (v := 0) hx hb dX11_mean_91 (by decide) ?_
          refine lv_istore (lv' := [(5, .int (0 : Int32)), (3, .long (0 : Int64)), (0, .ref h0), (1, .int p1), (2, .int p2)]) hx hb dX11_mean_92 hl (by decide) rfl (fun ls hl => ?_)
          have L94 : ∀ (n : Nat) (q94 : Int64 × Int32 × Rc) (o : Int64 × Rc), loopO (fX11_mean_L94 p1 p2) n q94 = some o → ∀ (H : Heap) (locs : List Loc) (ls : Array Slot), lv_has ls 7 [(0, .ref h0), (1, .int p1), (2, .int p2), (3, .long q94.1), (5, .int q94.2.1)] → va_P D vwCl (flat [WX11 cy h0 a0 q94.2.2]) H → va_D A (flat [WX11 cy h0 a0 q94.2.2]) → va_S A s.heap H locs → ∀ (kk157 : ∀ (H : Heap) (locs : List Loc) (ls : Array Slot), lv_has ls 7 [(0, .ref h0), (2, .int p2), (3, .long o.1)] → va_P D vwCl (flat [WX11 cy h0 a0 o.2]) H → va_D A (flat [WX11 cy h0 a0 o.2]) → va_S A s.heap H locs → W p l e rmX11_mean s m args below meth c H locs 0 0 QQ (F0 m 157 ls [])), W p l e rmX11_mean s m args below meth c H locs 0 0 QQ (F0 m 94 ls []) := by
            intro n
            induction n with
            | zero => intro q94 o h; exact absurd h (by rw [loopO_zero]; intro z; cases z)
            | succ n ih =>
              intro q94 o h H locs ls hl hP hD hS kk157
              obtain ⟨w, h, hgo, hst⟩ := loopO_elim h
              unfold fX11_mean_L94 at h
              refine lv_iload hx hb dX11_mean_94 (lv_at hl 4 rfl) ?_
              refine lv_iload_n hx hb dX11_mean_96 rfl (lv_at hl 2 rfl) ?_
              refine lv_icmp_ge (tgt := 157) hx hb dX11_mean_97 (by decide) (fun c15 => ?_) (fun c15 => ?_)
              · replace h := (if_pos c15).symm.trans h
                have eo := hst _ (Option.some.inj h).symm
                subst eo
                exact kk157 H locs ls (lv_sub hl [0, 2, 3] rfl) hP hD hS
              · replace h := (if_neg c15).symm.trans h
                refine lv_aload_n hx hb dX11_mean_100 rfl (lv_at hl 0 rfl) ?_
                refine lv_iload_n hx hb dX11_mean_101 rfl (lv_at hl 1 rfl) ?_
                refine lv_iload hx hb dX11_mean_102 (lv_at hl 4 rfl) ?_
                refine lv_iadd hx hb dX11_mean_104 ?_
                obtain ⟨r16, hr16, h⟩ := bd_elim h
                refine ca_v (w' := [WX11 cy h0 a0 r16]) (rn_V (As := [.int (p1 + q94.2.1)]) (rest := []) ⟨hx, hb, hml, hown, hts⟩ (kX11_lives l D cy h0 a0 q94.2.2 (p1 + q94.2.1) r16 hr16 H.size) (cwV 1 hts gX11_mean_X11_lives rfl rfl rfl (by decide +kernel) ⟨Nat.le_of_ble_eq_true rfl, Nat.le_of_ble_eq_true rfl⟩) hK hN hP hD [0] rfl rfl (ci := 11) (q0 := 0) rfl rfl rfl rfl hl.1 rfl (Nat.le_of_ble_eq_true rfl) dX11_mean_105 ⟨Nat.le_refl 0, Nat.le_refl 0⟩) hP hD hS hA [0] ⟨rfl, rfl, rfl, rfl⟩ (fun H locs hP hD hS => ?_)
                refine lv_lload_n hx hb dX11_mean_108 rfl (lv_at hl 3 rfl) ?_
                refine lv_aload_n hx hb dX11_mean_109 rfl (lv_at hl 0 rfl) ?_
                obtain ⟨r17, hr17, h⟩ := bd_elim h
                refine ca_i (w' := [WX11 cy h0 a0 r16]) (rn_V (As := []) (rest := [.long q94.1]) ⟨hx, hb, hml, hown, hts⟩ (kX11_keptOf l D cy h0 a0 r16 r17 hr17 H.size) (cwV 0 hts gX11_mean_X11_keptOf rfl rfl rfl (by decide +kernel) ⟨Nat.le_of_ble_eq_true rfl, Nat.le_of_ble_eq_true rfl⟩) hK hN hP hD [0] rfl rfl (ci := 11) (q0 := 0) rfl rfl rfl rfl hl.1 rfl (Nat.le_of_ble_eq_true rfl) dX11_mean_110 ⟨Nat.le_refl 0, Nat.le_refl 0⟩) hP hD hS hA [0] ⟨rfl, rfl, rfl, rfl⟩ (fun H locs hP hD hS => ?_)
                refine lv_i2l hx hb dX11_mean_113 rfl ?_
                refine lv_ladd hx hb dX11_mean_114 ?_
                refine lv_topl (fun x18 ex18 => ?_)
                replace h := lt_use h x18 ex18
                refine lv_lstore_n (lv' := [(3, .long x18), (0, .ref h0), (1, .int p1), (2, .int p2), (5, .int q94.2.1)]) hx hb dX11_mean_115 rfl hl (by decide) rfl (fun ls hl => ?_)
                refine lv_iconst (v := 0) hx hb dX11_mean_116 (by decide) ?_
                refine lv_istore (lv' := [(6, .int (0 : Int32)), (3, .long x18), (0, .ref h0), (1, .int p1), (2, .int p2), (5, .int q94.2.1)]) hx hb dX11_mean_117 hl (by decide) rfl (fun ls hl => ?_)
                have L119 : ∀ (n : Nat) (q119 : Int32 × Rc) (o : Rc), loopO (fX11_mean_L119) n q119 = some o → ∀ (H : Heap) (locs : List Loc) (ls : Array Slot), lv_has ls 7 [(3, .long x18), (0, .ref h0), (1, .int p1), (2, .int p2), (5, .int q94.2.1), (6, .int q119.1)] → va_P D vwCl (flat [WX11 cy h0 a0 q119.2]) H → va_D A (flat [WX11 cy h0 a0 q119.2]) → va_S A s.heap H locs → ∀ (kk151 : ∀ (H : Heap) (locs : List Loc) (ls : Array Slot), lv_has ls 7 [(3, .long x18), (0, .ref h0), (1, .int p1), (2, .int p2), (5, .int q94.2.1)] → va_P D vwCl (flat [WX11 cy h0 a0 o]) H → va_D A (flat [WX11 cy h0 a0 o]) → va_S A s.heap H locs → W p l e rmX11_mean s m args below meth c H locs 0 0 QQ (F0 m 151 ls [])), W p l e rmX11_mean s m args below meth c H locs 0 0 QQ (F0 m 119 ls []) := by
                  intro n
                  induction n with
                  | zero => intro q119 o h; exact absurd h (by rw [loopO_zero]; intro z; cases z)
                  | succ n ih =>
                    intro q119 o h H locs ls hl hP hD hS kk151
                    obtain ⟨w, h, hgo, hst⟩ := loopO_elim h
                    unfold fX11_mean_L119 at h
                    refine lv_iload hx hb dX11_mean_119 (lv_at hl 5 rfl) ?_
                    refine lv_sipush (v := 670) hx hb dX11_mean_121 (by decide) ?_
                    refine lv_icmp_ge (tgt := 151) hx hb dX11_mean_124 (by decide) (fun c19 => ?_) (fun c19 => ?_)
                    · replace h := (if_pos c19).symm.trans h
                      have eo := hst _ (Option.some.inj h).symm
                      subst eo
                      exact kk151 H locs ls (lv_sub hl [0, 1, 2, 3, 4] rfl) hP hD hS
                    · replace h := (if_neg c19).symm.trans h
                      refine lv_aload_n hx hb dX11_mean_127 rfl (lv_at hl 1 rfl) ?_
                      refine va_get (D := D) (ci := 11) (v := .ref (a0 0)) (C := RX11) (T := TX11) (N := 38) hx hb hts hinX11 hown hK hP 0 rfl rfl 0 (by decide) (hts (.fieldLink RX11 7 "KneeBenchModel" "at" "[I") (List.mem_of_getElem? (i := 3) rfl)) (fun _ h9 => h9) rfl dX11_mean_128 ?_
                      refine lv_iload hx hb dX11_mean_131 (lv_at hl 5 rfl) ?_
                      refine lv_aload_n hx hb dX11_mean_133 rfl (lv_at hl 1 rfl) ?_
                      refine va_get (D := D) (ci := 11) (v := .ref (a0 0)) (C := RX11) (T := TX11) (N := 38) hx hb hts hinX11 hown hK hP 0 rfl rfl 0 (by decide) (hts (.fieldLink RX11 7 "KneeBenchModel" "at" "[I") (List.mem_of_getElem? (i := 3) rfl)) (fun _ h9 => h9) rfl dX11_mean_134 ?_
                      refine lv_sipush (v := 5200) hx hb dX11_mean_137 (by decide) ?_
                      refine lv_iload hx hb dX11_mean_140 (lv_at hl 5 rfl) ?_
                      refine lv_iadd hx hb dX11_mean_142 ?_
                      obtain ⟨g20, h⟩ := gd_elim h
                      refine va_iald hx hb hK hP 1 1 rfl rfl (inb_in g20) dX11_mean_143 ?_
                      obtain ⟨g21, h⟩ := gd_elim h
                      obtain ⟨s0_22, es, h⟩ := lt_elim h
                      refine va_iast hx hb hK hP hD hS 1 1 rfl rfl (inb_in g21) dX11_mean_144 (fun H locs hP hD hS => ?_)
                      have hP : va_P D vwCl (flat [WX11 cy h0 a0 s0_22]) H := by rw [es]; exact hP
                      have hD : va_D A (flat [WX11 cy h0 a0 s0_22]) := by rw [es]; exact hD
                      clear es
                      refine lv_iinc (v := (q119.1 + (1 : Int32))) (lv' := [(6, .int (q119.1 + (1 : Int32))), (3, .long x18), (0, .ref h0), (1, .int p1), (2, .int p2), (5, .int q94.2.1)]) hx hb dX11_mean_145 hl (k := 5) rfl rfl (by decide) rfl (fun ls hl => ?_)
                      refine lv_goto (tgt := 119) hx hb dX11_mean_148 (by decide) ?_
                      exact ih _ o (hgo _ (Option.some.inj h).symm) H locs ls (lv_sub hl [1, 2, 3, 4, 5, 0] rfl) hP hD hS kk151
                obtain ⟨o119, ho119, h⟩ := bd_elim h
                obtain ⟨n119, hn119⟩ := loopF_some ho119
                refine L119 n119 _ o119 hn119 H locs ls (lv_sub hl [1, 2, 3, 4, 5, 0] rfl) hP hD hS (fun H locs ls hl hP hD hS => ?_)
                refine lv_iinc (v := (q94.2.1 + (1 : Int32))) (lv' := [(5, .int (q94.2.1 + (1 : Int32))), (3, .long x18), (0, .ref h0), (1, .int p1), (2, .int p2)]) hx hb dX11_mean_151 hl (k := 4) rfl rfl (by decide) rfl (fun ls hl => ?_)
                refine lv_goto (tgt := 94) hx hb dX11_mean_154 (by decide) ?_
                exact ih _ o (hgo _ (Option.some.inj h).symm) H locs ls (lv_sub hl [2, 3, 4, 1, 0] rfl) hP hD hS kk157
          obtain ⟨o94, ho94, h⟩ := bd_elim h
          obtain ⟨n94, hn94⟩ := loopF_some ho94
          refine L94 n94 _ o94 hn94 H locs ls (lv_sub hl [2, 3, 4, 1, 0] rfl) hP hD hS (fun H locs ls hl hP hD hS => ?_)
          refine lv_aload_n hx hb dX11_mean_157 rfl (lv_at hl 0 rfl) ?_
          refine lv_lload_n hx hb dX11_mean_158 rfl (lv_at hl 2 rfl) ?_
          refine lv_iload_n hx hb dX11_mean_159 rfl (lv_at hl 1 rfl) ?_
          refine lv_i2l hx hb dX11_mean_160 rfl ?_
          obtain ⟨r23, hr23, h⟩ := bd_elim h
          refine ca_z (w' := [WX11 cy h0 a0 r23.2]) (rn_V (As := [.long o94.1, .long p2.toInt64]) (rest := []) ⟨hx, hb, hml, hown, hts⟩ (kX11_tellsBy l D cy h0 a0 o94.2 o94.1 p2.toInt64 r23 hr23 H.size) (cwV 2 hts gX11_mean_X11_tellsBy rfl rfl rfl (by decide +kernel) ⟨Nat.le_of_ble_eq_true rfl, Nat.le_of_ble_eq_true rfl⟩) hK hN hP hD [0] rfl rfl (ci := 11) (q0 := 0) rfl rfl rfl rfl hl.1 rfl (Nat.le_of_ble_eq_true rfl) dX11_mean_161 ⟨Nat.le_refl 0, Nat.le_refl 0⟩) hP hD hS hA [0] ⟨rfl, rfl, rfl, rfl⟩ (fun b24 H locs hP hD hS => ?_)
          exact hret 164 H locs ls (r23.1, r23.2) (Option.some.inj h) hP hD hS b24 dX11_mean_164
        · replace h := (if_pos c10).symm.trans h
          refine lv_aload_n hx hb dX11_mean_51 rfl (lv_at hl 0 rfl) ?_
          refine lv_bipush (v := 6) hx hb dX11_mean_52 (by decide) ?_
          obtain ⟨r25, hr25, h⟩ := lt_elim h
          refine ca_z (w' := [WX11 cy h0 a0 r25.2]) (rn_V (As := [.int (6 : Int32)]) (rest := []) ⟨hx, hb, hml, hown, hts⟩ (kX11_is l D cy h0 a0 s0 (6 : Int32) r25 hr25.symm H.size) (cwV 1 hts gX11_mean_X11_is rfl rfl rfl (by decide +kernel) ⟨Nat.le_of_ble_eq_true rfl, Nat.le_of_ble_eq_true rfl⟩) hK hN hP hD [0] rfl rfl (ci := 11) (q0 := 0) rfl rfl rfl rfl hl.1 rfl (Nat.le_of_ble_eq_true rfl) dX11_mean_54 ⟨Nat.le_refl 0, Nat.le_refl 0⟩) hP hD hS hA [0] ⟨rfl, rfl, rfl, rfl⟩ (fun b26 H locs hP hD hS => ?_)
          exact hret 57 H locs ls (r25.1, r25.2) (Option.some.inj h) hP hD hS b26 dX11_mean_57
      · replace h := (if_neg c9).symm.trans h
        refine lv_aload_n hx hb dX11_mean_35 rfl (lv_at hl 0 rfl) ?_
        refine lv_iconst (v := 1) hx hb dX11_mean_36 (by decide) ?_
        obtain ⟨r27, hr27, h⟩ := lt_elim h
        refine ca_z (w' := [WX11 cy h0 a0 r27.2]) (rn_V (As := [.int (1 : Int32)]) (rest := []) ⟨hx, hb, hml, hown, hts⟩ (kX11_is l D cy h0 a0 s0 (1 : Int32) r27 hr27.symm H.size) (cwV 1 hts gX11_mean_X11_is rfl rfl rfl (by decide +kernel) ⟨Nat.le_of_ble_eq_true rfl, Nat.le_of_ble_eq_true rfl⟩) hK hN hP hD [0] rfl rfl (ci := 11) (q0 := 0) rfl rfl rfl rfl hl.1 rfl (Nat.le_of_ble_eq_true rfl) dX11_mean_37 ⟨Nat.le_refl 0, Nat.le_refl 0⟩) hP hD hS hA [0] ⟨rfl, rfl, rfl, rfl⟩ (fun b28 H locs hP hD hS => ?_)
        exact hret 40 H locs ls (r27.1, r27.2) (Option.some.inj h) hP hD hS b28 dX11_mean_40
theorem gd_X11_mood : wsX11_mood.all goodWord = true := by decide +kernel
set_option maxRecDepth 20000 in
theorem ggX11_mood_X11_isFarmer : GoodIn wsX11_mood wsX11_isFarmer := goodIn_by gd_X11_mood (List.forall_mem_cons.mpr ⟨List.mem_cons_of_mem _ (List.mem_append_left _ (List.mem_of_getElem? (i := 5) rfl)), List.forall_mem_append.mpr ⟨List.forall_mem_cons.mpr ⟨List.mem_cons_of_mem _ (List.mem_append_left _ (List.mem_of_getElem? (i := 0) rfl)), nowords_in⟩, (fun _ h => List.mem_cons_of_mem _ (List.mem_append_right _ (h)))⟩⟩)
set_option maxRecDepth 20000 in
theorem gX11_mood_X11_isFarmer : GoodIn wsX11_mood (wsV RX11 267 RX11 yX11_isFarmer wsX11_isFarmer) := goodIn_app (goodIn_by gd_X11_mood (List.forall_mem_cons.mpr ⟨List.mem_cons_of_mem _ (List.mem_append_left _ (List.mem_of_getElem? (i := 1) rfl)), List.forall_mem_cons.mpr ⟨List.mem_cons_of_mem _ (List.mem_append_left _ (List.mem_of_getElem? (i := 2) rfl)), List.forall_mem_cons.mpr ⟨List.mem_cons_of_mem _ (List.mem_append_left _ (List.mem_of_getElem? (i := 3) rfl)), List.forall_mem_cons.mpr ⟨List.mem_cons_of_mem _ (List.mem_append_left _ (List.mem_of_getElem? (i := 4) rfl)), nowords_in⟩⟩⟩⟩)) ggX11_mood_X11_isFarmer
set_option maxRecDepth 20000 in
theorem ggX11_mood_X11_refuse : GoodIn wsX11_mood wsX11_refuse := goodIn_by gd_X11_mood (List.forall_mem_cons.mpr ⟨List.mem_cons_of_mem _ (List.mem_append_left _ (List.mem_of_getElem? (i := 9) rfl)), List.forall_mem_append.mpr ⟨List.forall_mem_cons.mpr ⟨List.mem_cons_of_mem _ (List.mem_append_left _ (List.mem_of_getElem? (i := 10) rfl)), nowords_in⟩, (fun _ h => List.mem_cons_of_mem _ (List.mem_append_right _ (h)))⟩⟩)
set_option maxRecDepth 20000 in
theorem gX11_mood_X11_refuse : GoodIn wsX11_mood (wsV RX11 75 RX11 yX11_refuse wsX11_refuse) := goodIn_app (goodIn_by gd_X11_mood (List.forall_mem_cons.mpr ⟨List.mem_cons_of_mem _ (List.mem_append_left _ (List.mem_of_getElem? (i := 6) rfl)), List.forall_mem_cons.mpr ⟨List.mem_cons_of_mem _ (List.mem_append_left _ (List.mem_of_getElem? (i := 7) rfl)), List.forall_mem_cons.mpr ⟨List.mem_cons_of_mem _ (List.mem_append_left _ (List.mem_of_getElem? (i := 8) rfl)), List.forall_mem_cons.mpr ⟨List.mem_cons_of_mem _ (List.mem_append_left _ (List.mem_of_getElem? (i := 4) rfl)), nowords_in⟩⟩⟩⟩)) ggX11_mood_X11_refuse
set_option maxRecDepth 20000 in
theorem ggX11_mood_X11_gives : GoodIn wsX11_mood wsX11_gives := goodIn_by gd_X11_mood (List.forall_mem_cons.mpr ⟨List.mem_cons_of_mem _ (List.mem_append_left _ (List.mem_of_getElem? (i := 14) rfl)), List.forall_mem_append.mpr ⟨List.forall_mem_cons.mpr ⟨List.mem_cons_of_mem _ (List.mem_append_left _ (List.mem_of_getElem? (i := 10) rfl)), nowords_in⟩, (fun _ h => List.mem_cons_of_mem _ (List.mem_append_right _ (h)))⟩⟩)
set_option maxRecDepth 20000 in
theorem gX11_mood_X11_gives : GoodIn wsX11_mood (wsV RX11 79 RX11 yX11_gives wsX11_gives) := goodIn_app (goodIn_by gd_X11_mood (List.forall_mem_cons.mpr ⟨List.mem_cons_of_mem _ (List.mem_append_left _ (List.mem_of_getElem? (i := 11) rfl)), List.forall_mem_cons.mpr ⟨List.mem_cons_of_mem _ (List.mem_append_left _ (List.mem_of_getElem? (i := 12) rfl)), List.forall_mem_cons.mpr ⟨List.mem_cons_of_mem _ (List.mem_append_left _ (List.mem_of_getElem? (i := 13) rfl)), List.forall_mem_cons.mpr ⟨List.mem_cons_of_mem _ (List.mem_append_left _ (List.mem_of_getElem? (i := 4) rfl)), nowords_in⟩⟩⟩⟩)) ggX11_mood_X11_gives
theorem dX11_mood_0 : decode cX11_mood 0 = .ok (.aload_n 0, 1) := by decide +kernel
theorem dX11_mood_1 : decode cX11_mood 1 = .ok (.iload_n 1, 1) := by decide +kernel
theorem dX11_mood_2 : decode cX11_mood 2 = .ok (.invokevirtual 267, 3) := by decide +kernel
theorem dX11_mood_5 : decode cX11_mood 5 = .ok (.ifCond .ne 9, 3) := by decide +kernel
theorem dX11_mood_8 : decode cX11_mood 8 = .ok (.aload_n 0, 1) := by decide +kernel
theorem dX11_mood_9 : decode cX11_mood 9 = .ok (.iconst 1, 1) := by decide +kernel
theorem dX11_mood_10 : decode cX11_mood 10 = .ok (.invokevirtual 75, 3) := by decide +kernel
theorem dX11_mood_13 : decode cX11_mood 13 = .ok (.ireturn, 1) := by decide +kernel
theorem dX11_mood_14 : decode cX11_mood 14 = .ok (.iconst 0, 1) := by decide +kernel
theorem dX11_mood_15 : decode cX11_mood 15 = .ok (.istore_n 2, 1) := by decide +kernel
theorem dX11_mood_16 : decode cX11_mood 16 = .ok (.iconst 0, 1) := by decide +kernel
theorem dX11_mood_17 : decode cX11_mood 17 = .ok (.istore_n 3, 1) := by decide +kernel
theorem dX11_mood_18 : decode cX11_mood 18 = .ok (.iload_n 3, 1) := by decide +kernel
theorem dX11_mood_19 : decode cX11_mood 19 = .ok (.aload_n 0, 1) := by decide +kernel
theorem dX11_mood_20 : decode cX11_mood 20 = .ok (.getfield 7, 3) := by decide +kernel
theorem dX11_mood_23 : decode cX11_mood 23 = .ok (.iconst 0, 1) := by decide +kernel
theorem dX11_mood_24 : decode cX11_mood 24 = .ok (.iaload, 1) := by decide +kernel
theorem dX11_mood_25 : decode cX11_mood 25 = .ok (.if_icmp .ge 26, 3) := by decide +kernel
theorem dX11_mood_28 : decode cX11_mood 28 = .ok (.iload_n 2, 1) := by decide +kernel
theorem dX11_mood_29 : decode cX11_mood 29 = .ok (.aload_n 0, 1) := by decide +kernel
theorem dX11_mood_30 : decode cX11_mood 30 = .ok (.getfield 7, 3) := by decide +kernel
theorem dX11_mood_33 : decode cX11_mood 33 = .ok (.bipush 58, 2) := by decide +kernel
theorem dX11_mood_35 : decode cX11_mood 35 = .ok (.bipush 8, 2) := by decide +kernel
theorem dX11_mood_37 : decode cX11_mood 37 = .ok (.iload_n 1, 1) := by decide +kernel
theorem dX11_mood_38 : decode cX11_mood 38 = .ok (.imul, 1) := by decide +kernel
theorem dX11_mood_39 : decode cX11_mood 39 = .ok (.iadd, 1) := by decide +kernel
theorem dX11_mood_40 : decode cX11_mood 40 = .ok (.iload_n 3, 1) := by decide +kernel
theorem dX11_mood_41 : decode cX11_mood 41 = .ok (.iadd, 1) := by decide +kernel
theorem dX11_mood_42 : decode cX11_mood 42 = .ok (.iaload, 1) := by decide +kernel
theorem dX11_mood_43 : decode cX11_mood 43 = .ok (.iadd, 1) := by decide +kernel
theorem dX11_mood_44 : decode cX11_mood 44 = .ok (.istore_n 2, 1) := by decide +kernel
theorem dX11_mood_45 : decode cX11_mood 45 = .ok (.iinc 3 1, 3) := by decide +kernel
theorem dX11_mood_48 : decode cX11_mood 48 = .ok (.goto (-30), 3) := by decide +kernel
theorem dX11_mood_51 : decode cX11_mood 51 = .ok (.aload_n 0, 1) := by decide +kernel
theorem dX11_mood_52 : decode cX11_mood 52 = .ok (.iload_n 2, 1) := by decide +kernel
theorem dX11_mood_53 : decode cX11_mood 53 = .ok (.invokevirtual 79, 3) := by decide +kernel
theorem dX11_mood_56 : decode cX11_mood 56 = .ok (.ireturn, 1) := by decide +kernel
abbrev rmX11_mood : Room := { frames := 1, cells := 0, slots := 0, locals := 21 }
set_option maxHeartbeats 4000000 in
set_option maxRecDepth 100000 in
theorem kX11_mood (l : Launch) (D : va_G) (cy : Nat → ClassId) (h0 : Nat) (a0 : Nat → Nat) (s0 : Rc) (p1 : Int32) (res : Int32 × Rc) (h : fX11_mood p1 s0 = some res) : CI l D cy yX11_mood wsX11_mood rmX11_mood [.ref h0, .int p1] (flat [WX11 cy h0 a0 s0]) (flat [WX11 cy h0 a0 res.2]) res.1 := by
  refine CI.of (cc := cX11_mood) (maxL := 4) (by decide) rfl (Nat.le_of_ble_eq_true rfl) ?_
  intro p e s m args below meth c A QQ ls E hr
  obtain ⟨hx, hb, hml, hown, hts, hK, hN, hP, hD, hA, hl⟩ := E
  have hret : ∀ (pc : Nat) (H : Heap) (locs : List Loc) (ls : Array Slot) (u : Int32 × Rc), u = res → va_P D vwCl (flat [WX11 cy h0 a0 u.2]) H → va_D A (flat [WX11 cy h0 a0 u.2]) → va_S A s.heap H locs → decode cX11_mood pc = .ok (.ireturn, 1) → W p l e rmX11_mood s m args below meth c H locs 0 0 QQ (F0 m pc ls [.int u.1]) := by
    intro pc H locs ls u hu hP hD hS hd; subst hu; exact hr pc H locs ls _ rfl hP hD hS hd
  clear hr
  have hl : lv_has ls 4 [(0, .ref h0), (1, .int p1)] := hl
  have hinX11 : ∀ w ∈ wsX110, w ∈ wsX11_mood := fun _ h => List.mem_cons_of_mem _ (List.mem_append_right _ h)
  unfold fX11_mood at h
  suffices key : ∀ (H : Heap) (locs : List Loc), va_P D vwCl (flat [WX11 cy h0 a0 s0]) H → va_S A s.heap H locs → W p l e rmX11_mood s m args below meth c H locs 0 0 QQ (F0 m 0 ls []) from key _ _ hP va_S.rf
  clear hP
  intro H locs hP hS
  refine lv_aload_n hx hb dX11_mood_0 rfl (lv_at hl 0 rfl) ?_
  refine lv_iload_n hx hb dX11_mood_1 rfl (lv_at hl 1 rfl) ?_
  refine ca_z (w' := [WX11 cy h0 a0 s0]) (rn_V (As := [.int p1]) (rest := []) ⟨hx, hb, hml, hown, hts⟩ (kX11_isFarmer l D cy h0 a0 s0 p1 _ rfl H.size) (cwV 1 hts gX11_mood_X11_isFarmer rfl rfl rfl (by decide +kernel) ⟨Nat.le_of_ble_eq_true rfl, Nat.le_of_ble_eq_true rfl⟩) hK hN hP hD [0] rfl rfl (ci := 11) (q0 := 0) rfl rfl rfl rfl hl.1 rfl (Nat.le_of_ble_eq_true rfl) dX11_mood_2 ⟨Nat.le_refl 0, Nat.le_refl 0⟩) hP hD hS hA [0] ⟨rfl, rfl, rfl, rfl⟩ (fun b1 H locs hP hD hS => ?_)
  refine lv_if_ne (tgt := 14) hx hb dX11_mood_5 (by decide) (fun c2 => ?_) (fun c2 => ?_)
  · replace h := (if_neg c2).symm.trans h
    refine lv_iconst (v := 0) hx hb dX11_mood_14 (by decide) ?_
    refine lv_istore_n (lv' := [(2, .int (0 : Int32)), (0, .ref h0), (1, .int p1)]) hx hb dX11_mood_15 rfl hl (by decide) rfl (fun ls hl => ?_)
    refine lv_iconst (v := 0) hx hb dX11_mood_16 (by decide) ?_
    refine lv_istore_n (lv' := [(3, .int (0 : Int32)), (2, .int (0 : Int32)), (0, .ref h0), (1, .int p1)]) hx hb dX11_mood_17 rfl hl (by decide) rfl (fun ls hl => ?_)
    have L18 : ∀ (n : Nat) (q18 : Int32 × Int32) (o : Int32), loopO (fX11_mood_L18 p1 s0) n q18 = some o → ∀ (H : Heap) (locs : List Loc) (ls : Array Slot), lv_has ls 4 [(0, .ref h0), (1, .int p1), (2, .int q18.1), (3, .int q18.2)] → va_P D vwCl (flat [WX11 cy h0 a0 s0]) H → va_D A (flat [WX11 cy h0 a0 s0]) → va_S A s.heap H locs → ∀ (kk51 : ∀ (H : Heap) (locs : List Loc) (ls : Array Slot), lv_has ls 4 [(0, .ref h0), (2, .int o)] → va_P D vwCl (flat [WX11 cy h0 a0 s0]) H → va_D A (flat [WX11 cy h0 a0 s0]) → va_S A s.heap H locs → W p l e rmX11_mood s m args below meth c H locs 0 0 QQ (F0 m 51 ls [])), W p l e rmX11_mood s m args below meth c H locs 0 0 QQ (F0 m 18 ls []) := by
      intro n
      induction n with
      | zero => intro q18 o h; exact absurd h (by rw [loopO_zero]; intro z; cases z)
      | succ n ih =>
        intro q18 o h H locs ls hl hP hD hS kk51
        obtain ⟨w, h, hgo, hst⟩ := loopO_elim h
        unfold fX11_mood_L18 at h
        refine lv_iload_n hx hb dX11_mood_18 rfl (lv_at hl 3 rfl) ?_
        refine lv_aload_n hx hb dX11_mood_19 rfl (lv_at hl 0 rfl) ?_
        refine va_get (D := D) (ci := 11) (v := .ref (a0 0)) (C := RX11) (T := TX11) (N := 38) hx hb hts hinX11 hown hK hP 0 rfl rfl 0 (by decide) (hts (.fieldLink RX11 7 "KneeBenchModel" "at" "[I") (List.mem_of_getElem? (i := 1) rfl)) (fun _ h9 => h9) rfl dX11_mood_20 ?_
        refine lv_iconst (v := 0) hx hb dX11_mood_23 (by decide) ?_
        refine va_iald hx hb hK hP 1 1 rfl rfl (inb_in (by decide)) dX11_mood_24 ?_
        refine lv_icmp_ge (tgt := 51) hx hb dX11_mood_25 (by decide) (fun c3 => ?_) (fun c3 => ?_)
        · replace h := (if_pos c3).symm.trans h
          have eo := hst _ (Option.some.inj h).symm
          subst eo
          exact kk51 H locs ls (lv_sub hl [0, 2] rfl) hP hD hS
        · replace h := (if_neg c3).symm.trans h
          refine lv_iload_n hx hb dX11_mood_28 rfl (lv_at hl 2 rfl) ?_
          refine lv_aload_n hx hb dX11_mood_29 rfl (lv_at hl 0 rfl) ?_
          refine va_get (D := D) (ci := 11) (v := .ref (a0 0)) (C := RX11) (T := TX11) (N := 38) hx hb hts hinX11 hown hK hP 0 rfl rfl 0 (by decide) (hts (.fieldLink RX11 7 "KneeBenchModel" "at" "[I") (List.mem_of_getElem? (i := 1) rfl)) (fun _ h9 => h9) rfl dX11_mood_30 ?_
          refine lv_bipush (v := 58) hx hb dX11_mood_33 (by decide) ?_
          refine lv_bipush (v := 8) hx hb dX11_mood_35 (by decide) ?_
          refine lv_iload_n hx hb dX11_mood_37 rfl (lv_at hl 1 rfl) ?_
          refine lv_imul hx hb dX11_mood_38 ?_
          refine lv_iadd hx hb dX11_mood_39 ?_
          refine lv_iload_n hx hb dX11_mood_40 rfl (lv_at hl 3 rfl) ?_
          refine lv_iadd hx hb dX11_mood_41 ?_
          obtain ⟨g4, h⟩ := gd_elim h
          refine va_iald hx hb hK hP 1 1 rfl rfl (inb_in g4) dX11_mood_42 ?_
          refine lv_iadd hx hb dX11_mood_43 ?_
          refine lv_topi (fun x5 ex5 => ?_)
          replace h := lt_use h x5 ex5
          refine lv_istore_n (lv' := [(2, .int x5), (0, .ref h0), (1, .int p1), (3, .int q18.2)]) hx hb dX11_mood_44 rfl hl (by decide) rfl (fun ls hl => ?_)
          refine lv_iinc (v := (q18.2 + (1 : Int32))) (lv' := [(3, .int (q18.2 + (1 : Int32))), (2, .int x5), (0, .ref h0), (1, .int p1)]) hx hb dX11_mood_45 hl (k := 3) rfl rfl (by decide) rfl (fun ls hl => ?_)
          refine lv_goto (tgt := 18) hx hb dX11_mood_48 (by decide) ?_
          exact ih _ o (hgo _ (Option.some.inj h).symm) H locs ls (lv_sub hl [2, 3, 1, 0] rfl) hP hD hS kk51
    obtain ⟨o18, ho18, h⟩ := bd_elim h
    obtain ⟨n18, hn18⟩ := loopF_some ho18
    refine L18 n18 _ o18 hn18 H locs ls (lv_sub hl [2, 3, 1, 0] rfl) hP hD hS (fun H locs ls hl hP hD hS => ?_)
    refine lv_aload_n hx hb dX11_mood_51 rfl (lv_at hl 0 rfl) ?_
    refine lv_iload_n hx hb dX11_mood_52 rfl (lv_at hl 1 rfl) ?_
    obtain ⟨r6, hr6, h⟩ := lt_elim h
    refine ca_i (w' := [WX11 cy h0 a0 r6.2]) (rn_V (As := [.int o18]) (rest := []) ⟨hx, hb, hml, hown, hts⟩ (kX11_gives l D cy h0 a0 s0 o18 r6 hr6.symm H.size) (cwV 1 hts gX11_mood_X11_gives rfl rfl rfl (by decide +kernel) ⟨Nat.le_of_ble_eq_true rfl, Nat.le_of_ble_eq_true rfl⟩) hK hN hP hD [0] rfl rfl (ci := 11) (q0 := 0) rfl rfl rfl rfl hl.1 rfl (Nat.le_of_ble_eq_true rfl) dX11_mood_53 ⟨Nat.le_refl 0, Nat.le_refl 0⟩) hP hD hS hA [0] ⟨rfl, rfl, rfl, rfl⟩ (fun H locs hP hD hS => ?_)
    exact hret 56 H locs ls (r6.1, r6.2) (Option.some.inj h) hP hD hS dX11_mood_56
  · replace h := (if_pos c2).symm.trans h
    refine lv_aload_n hx hb dX11_mood_8 rfl (lv_at hl 0 rfl) ?_
    refine lv_iconst (v := 1) hx hb dX11_mood_9 (by decide) ?_
    obtain ⟨r7, hr7, h⟩ := lt_elim h
    refine ca_i (w' := [WX11 cy h0 a0 r7.2]) (rn_V (As := [.int (1 : Int32)]) (rest := []) ⟨hx, hb, hml, hown, hts⟩ (kX11_refuse l D cy h0 a0 s0 (1 : Int32) r7 hr7.symm H.size) (cwV 1 hts gX11_mood_X11_refuse rfl rfl rfl (by decide +kernel) ⟨Nat.le_of_ble_eq_true rfl, Nat.le_of_ble_eq_true rfl⟩) hK hN hP hD [0] rfl rfl (ci := 11) (q0 := 0) rfl rfl rfl rfl hl.1 rfl (Nat.le_of_ble_eq_true rfl) dX11_mood_10 ⟨Nat.le_refl 0, Nat.le_refl 0⟩) hP hD hS hA [0] ⟨rfl, rfl, rfl, rfl⟩ (fun H locs hP hD hS => ?_)
    exact hret 13 H locs ls (r7.1, r7.2) (Option.some.inj h) hP hD hS dX11_mood_13
