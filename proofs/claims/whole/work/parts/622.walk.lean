theorem gd_X0_fewestTurned : wsX0_fewestTurned.all goodWord = true := by decide +kernel
set_option maxRecDepth 20000 in
theorem ggX0_fewestTurned_X0_tellersOf : GoodIn wsX0_fewestTurned wsX0_tellersOf := goodIn_by gd_X0_fewestTurned (List.forall_mem_cons.mpr ⟨List.mem_cons_of_mem _ (List.mem_append_left _ (List.mem_append_left _ (List.mem_of_getElem? (i := 6) rfl))), List.forall_mem_append.mpr ⟨List.forall_mem_cons.mpr ⟨List.mem_cons_of_mem _ (List.mem_append_left _ (List.mem_append_left _ (List.mem_of_getElem? (i := 1) rfl))), List.forall_mem_cons.mpr ⟨List.mem_cons_of_mem _ (List.mem_append_left _ (List.mem_append_left _ (List.mem_of_getElem? (i := 7) rfl))), List.forall_mem_cons.mpr ⟨List.mem_cons_of_mem _ (List.mem_append_left _ (List.mem_append_left _ (List.mem_of_getElem? (i := 8) rfl))), List.forall_mem_cons.mpr ⟨List.mem_cons_of_mem _ (List.mem_append_left _ (List.mem_append_left _ (List.mem_of_getElem? (i := 9) rfl))), List.forall_mem_cons.mpr ⟨List.mem_cons_of_mem _ (List.mem_append_left _ (List.mem_append_left _ (List.mem_of_getElem? (i := 5) rfl))), List.forall_mem_cons.mpr ⟨List.mem_cons_of_mem _ (List.mem_append_left _ (List.mem_append_left _ (List.mem_of_getElem? (i := 10) rfl))), List.forall_mem_cons.mpr ⟨List.mem_cons_of_mem _ (List.mem_append_left _ (List.mem_append_left _ (List.mem_of_getElem? (i := 11) rfl))), List.forall_mem_cons.mpr ⟨List.mem_cons_of_mem _ (List.mem_append_left _ (List.mem_append_left _ (List.mem_of_getElem? (i := 12) rfl))), List.forall_mem_cons.mpr ⟨List.mem_cons_of_mem _ (List.mem_append_left _ (List.mem_append_left _ (List.mem_of_getElem? (i := 13) rfl))), nowords_in⟩⟩⟩⟩⟩⟩⟩⟩⟩, (fun _ h => List.mem_cons_of_mem _ (List.mem_append_right _ (h)))⟩⟩)
set_option maxRecDepth 20000 in
theorem gX0_fewestTurned_X0_tellersOf : GoodIn wsX0_fewestTurned (wsV RX0 143 RX0 yX0_tellersOf wsX0_tellersOf) := goodIn_app (goodIn_by gd_X0_fewestTurned (List.forall_mem_cons.mpr ⟨List.mem_cons_of_mem _ (List.mem_append_left _ (List.mem_append_left _ (List.mem_of_getElem? (i := 2) rfl))), List.forall_mem_cons.mpr ⟨List.mem_cons_of_mem _ (List.mem_append_left _ (List.mem_append_left _ (List.mem_of_getElem? (i := 3) rfl))), List.forall_mem_cons.mpr ⟨List.mem_cons_of_mem _ (List.mem_append_left _ (List.mem_append_left _ (List.mem_of_getElem? (i := 4) rfl))), List.forall_mem_cons.mpr ⟨List.mem_cons_of_mem _ (List.mem_append_left _ (List.mem_append_left _ (List.mem_of_getElem? (i := 5) rfl))), nowords_in⟩⟩⟩⟩)) ggX0_fewestTurned_X0_tellersOf
set_option maxRecDepth 20000 in
theorem ggX0_fewestTurned_X0_believersOf : GoodIn wsX0_fewestTurned wsX0_believersOf := goodIn_by gd_X0_fewestTurned (List.forall_mem_cons.mpr ⟨List.mem_cons_of_mem _ (List.mem_append_left _ (List.mem_append_left _ (List.mem_of_getElem? (i := 17) rfl))), List.forall_mem_append.mpr ⟨List.forall_mem_cons.mpr ⟨List.mem_cons_of_mem _ (List.mem_append_left _ (List.mem_append_left _ (List.mem_of_getElem? (i := 1) rfl))), List.forall_mem_cons.mpr ⟨List.mem_cons_of_mem _ (List.mem_append_left _ (List.mem_append_left _ (List.mem_of_getElem? (i := 18) rfl))), List.forall_mem_cons.mpr ⟨List.mem_cons_of_mem _ (List.mem_append_left _ (List.mem_append_left _ (List.mem_of_getElem? (i := 19) rfl))), List.forall_mem_cons.mpr ⟨List.mem_cons_of_mem _ (List.mem_append_left _ (List.mem_append_left _ (List.mem_of_getElem? (i := 20) rfl))), List.forall_mem_cons.mpr ⟨List.mem_cons_of_mem _ (List.mem_append_left _ (List.mem_append_left _ (List.mem_of_getElem? (i := 5) rfl))), List.forall_mem_cons.mpr ⟨List.mem_cons_of_mem _ (List.mem_append_left _ (List.mem_append_left _ (List.mem_of_getElem? (i := 21) rfl))), List.forall_mem_cons.mpr ⟨List.mem_cons_of_mem _ (List.mem_append_left _ (List.mem_append_left _ (List.mem_of_getElem? (i := 11) rfl))), List.forall_mem_cons.mpr ⟨List.mem_cons_of_mem _ (List.mem_append_left _ (List.mem_append_left _ (List.mem_of_getElem? (i := 7) rfl))), List.forall_mem_cons.mpr ⟨List.mem_cons_of_mem _ (List.mem_append_left _ (List.mem_append_left _ (List.mem_of_getElem? (i := 8) rfl))), List.forall_mem_cons.mpr ⟨List.mem_cons_of_mem _ (List.mem_append_left _ (List.mem_append_left _ (List.mem_of_getElem? (i := 9) rfl))), List.forall_mem_cons.mpr ⟨List.mem_cons_of_mem _ (List.mem_append_left _ (List.mem_append_left _ (List.mem_of_getElem? (i := 10) rfl))), List.forall_mem_cons.mpr ⟨List.mem_cons_of_mem _ (List.mem_append_left _ (List.mem_append_left _ (List.mem_of_getElem? (i := 12) rfl))), List.forall_mem_cons.mpr ⟨List.mem_cons_of_mem _ (List.mem_append_left _ (List.mem_append_left _ (List.mem_of_getElem? (i := 13) rfl))), List.forall_mem_cons.mpr ⟨List.mem_cons_of_mem _ (List.mem_append_left _ (List.mem_append_left _ (List.mem_of_getElem? (i := 22) rfl))), List.forall_mem_cons.mpr ⟨List.mem_cons_of_mem _ (List.mem_append_left _ (List.mem_append_left _ (List.mem_of_getElem? (i := 23) rfl))), List.forall_mem_cons.mpr ⟨List.mem_cons_of_mem _ (List.mem_append_left _ (List.mem_append_right _ (List.mem_of_getElem? (i := 0) rfl))), List.forall_mem_cons.mpr ⟨List.mem_cons_of_mem _ (List.mem_append_left _ (List.mem_append_right _ (List.mem_of_getElem? (i := 1) rfl))), List.forall_mem_cons.mpr ⟨List.mem_cons_of_mem _ (List.mem_append_left _ (List.mem_append_right _ (List.mem_of_getElem? (i := 2) rfl))), nowords_in⟩⟩⟩⟩⟩⟩⟩⟩⟩⟩⟩⟩⟩⟩⟩⟩⟩⟩, (fun _ h => List.mem_cons_of_mem _ (List.mem_append_right _ (h)))⟩⟩)
set_option maxRecDepth 20000 in
theorem gX0_fewestTurned_X0_believersOf : GoodIn wsX0_fewestTurned (wsV RX0 146 RX0 yX0_believersOf wsX0_believersOf) := goodIn_app (goodIn_by gd_X0_fewestTurned (List.forall_mem_cons.mpr ⟨List.mem_cons_of_mem _ (List.mem_append_left _ (List.mem_append_left _ (List.mem_of_getElem? (i := 14) rfl))), List.forall_mem_cons.mpr ⟨List.mem_cons_of_mem _ (List.mem_append_left _ (List.mem_append_left _ (List.mem_of_getElem? (i := 15) rfl))), List.forall_mem_cons.mpr ⟨List.mem_cons_of_mem _ (List.mem_append_left _ (List.mem_append_left _ (List.mem_of_getElem? (i := 16) rfl))), List.forall_mem_cons.mpr ⟨List.mem_cons_of_mem _ (List.mem_append_left _ (List.mem_append_left _ (List.mem_of_getElem? (i := 5) rfl))), nowords_in⟩⟩⟩⟩)) ggX0_fewestTurned_X0_believersOf
set_option maxRecDepth 20000 in
theorem ggX0_fewestTurned_X0_verdict : GoodIn wsX0_fewestTurned wsX0_verdict := goodIn_by gd_X0_fewestTurned (List.forall_mem_cons.mpr ⟨List.mem_cons_of_mem _ (List.mem_append_left _ (List.mem_append_right _ (List.mem_of_getElem? (i := 6) rfl))), List.forall_mem_append.mpr ⟨List.forall_mem_cons.mpr ⟨List.mem_cons_of_mem _ (List.mem_append_left _ (List.mem_append_right _ (List.mem_of_getElem? (i := 7) rfl))), List.forall_mem_cons.mpr ⟨List.mem_cons_of_mem _ (List.mem_append_left _ (List.mem_append_right _ (List.mem_of_getElem? (i := 8) rfl))), List.forall_mem_cons.mpr ⟨List.mem_cons_of_mem _ (List.mem_append_left _ (List.mem_append_right _ (List.mem_of_getElem? (i := 9) rfl))), List.forall_mem_cons.mpr ⟨List.mem_cons_of_mem _ (List.mem_append_left _ (List.mem_append_right _ (List.mem_of_getElem? (i := 10) rfl))), List.forall_mem_cons.mpr ⟨List.mem_cons_of_mem _ (List.mem_append_left _ (List.mem_append_right _ (List.mem_of_getElem? (i := 11) rfl))), List.forall_mem_cons.mpr ⟨List.mem_cons_of_mem _ (List.mem_append_left _ (List.mem_append_right _ (List.mem_of_getElem? (i := 12) rfl))), List.forall_mem_cons.mpr ⟨List.mem_cons_of_mem _ (List.mem_append_left _ (List.mem_append_right _ (List.mem_of_getElem? (i := 13) rfl))), List.forall_mem_cons.mpr ⟨List.mem_cons_of_mem _ (List.mem_append_left _ (List.mem_append_right _ (List.mem_of_getElem? (i := 14) rfl))), List.forall_mem_cons.mpr ⟨List.mem_cons_of_mem _ (List.mem_append_left _ (List.mem_append_right _ (List.mem_of_getElem? (i := 15) rfl))), List.forall_mem_cons.mpr ⟨List.mem_cons_of_mem _ (List.mem_append_left _ (List.mem_append_right _ (List.mem_of_getElem? (i := 16) rfl))), List.forall_mem_cons.mpr ⟨List.mem_cons_of_mem _ (List.mem_append_left _ (List.mem_append_right _ (List.mem_of_getElem? (i := 17) rfl))), List.forall_mem_cons.mpr ⟨List.mem_cons_of_mem _ (List.mem_append_left _ (List.mem_append_right _ (List.mem_of_getElem? (i := 18) rfl))), List.forall_mem_cons.mpr ⟨List.mem_cons_of_mem _ (List.mem_append_left _ (List.mem_append_right _ (List.mem_of_getElem? (i := 19) rfl))), List.forall_mem_cons.mpr ⟨List.mem_cons_of_mem _ (List.mem_append_left _ (List.mem_append_left _ (List.mem_of_getElem? (i := 5) rfl))), List.forall_mem_cons.mpr ⟨List.mem_cons_of_mem _ (List.mem_append_left _ (List.mem_append_right _ (List.mem_of_getElem? (i := 20) rfl))), List.forall_mem_cons.mpr ⟨List.mem_cons_of_mem _ (List.mem_append_left _ (List.mem_append_left _ (List.mem_of_getElem? (i := 1) rfl))), List.forall_mem_cons.mpr ⟨List.mem_cons_of_mem _ (List.mem_append_left _ (List.mem_append_right _ (List.mem_of_getElem? (i := 21) rfl))), nowords_in⟩⟩⟩⟩⟩⟩⟩⟩⟩⟩⟩⟩⟩⟩⟩⟩⟩, (fun _ h => List.mem_cons_of_mem _ (List.mem_append_right _ (h)))⟩⟩)
set_option maxRecDepth 20000 in
theorem gX0_fewestTurned_X0_verdict : GoodIn wsX0_fewestTurned (wsV RX0 149 RX0 yX0_verdict wsX0_verdict) := goodIn_app (goodIn_by gd_X0_fewestTurned (List.forall_mem_cons.mpr ⟨List.mem_cons_of_mem _ (List.mem_append_left _ (List.mem_append_right _ (List.mem_of_getElem? (i := 3) rfl))), List.forall_mem_cons.mpr ⟨List.mem_cons_of_mem _ (List.mem_append_left _ (List.mem_append_right _ (List.mem_of_getElem? (i := 4) rfl))), List.forall_mem_cons.mpr ⟨List.mem_cons_of_mem _ (List.mem_append_left _ (List.mem_append_right _ (List.mem_of_getElem? (i := 5) rfl))), List.forall_mem_cons.mpr ⟨List.mem_cons_of_mem _ (List.mem_append_left _ (List.mem_append_left _ (List.mem_of_getElem? (i := 5) rfl))), nowords_in⟩⟩⟩⟩)) ggX0_fewestTurned_X0_verdict
set_option maxRecDepth 20000 in
theorem ggX0_fewestTurned_J6_bitCount_0f7a4 : GoodIn wsX0_fewestTurned wsJ6_bitCount_0f7a4 := goodIn_by gd_X0_fewestTurned (List.forall_mem_cons.mpr ⟨List.mem_cons_of_mem _ (List.mem_append_left _ (List.mem_append_right _ (List.mem_of_getElem? (i := 10) rfl))), List.forall_mem_cons.mpr ⟨List.mem_cons_of_mem _ (List.mem_append_left _ (List.mem_append_right _ (List.mem_of_getElem? (i := 11) rfl))), List.forall_mem_cons.mpr ⟨List.mem_cons_of_mem _ (List.mem_append_left _ (List.mem_append_right _ (List.mem_of_getElem? (i := 12) rfl))), List.forall_mem_cons.mpr ⟨List.mem_cons_of_mem _ (List.mem_append_left _ (List.mem_append_right _ (List.mem_of_getElem? (i := 13) rfl))), nowords_in⟩⟩⟩⟩)
set_option maxRecDepth 20000 in
theorem gX0_fewestTurned_J6_bitCount_0f7a4 : GoodIn wsX0_fewestTurned (va_wsS RX0 131 yJ6_bitCount_0f7a4 wsJ6_bitCount_0f7a4) := goodIn_app (goodIn_by gd_X0_fewestTurned (List.forall_mem_cons.mpr ⟨List.mem_cons_of_mem _ (List.mem_append_left _ (List.mem_append_right _ (List.mem_of_getElem? (i := 7) rfl))), List.forall_mem_cons.mpr ⟨List.mem_cons_of_mem _ (List.mem_append_left _ (List.mem_append_right _ (List.mem_of_getElem? (i := 8) rfl))), List.forall_mem_cons.mpr ⟨List.mem_cons_of_mem _ (List.mem_append_left _ (List.mem_append_right _ (List.mem_of_getElem? (i := 9) rfl))), nowords_in⟩⟩⟩)) ggX0_fewestTurned_J6_bitCount_0f7a4
theorem dX0_fewestTurned_0 : decode cX0_fewestTurned 0 = .ok (.aload_n 0, 1) := by decide +kernel
theorem dX0_fewestTurned_1 : decode cX0_fewestTurned 1 = .ok (.iload_n 1, 1) := by decide +kernel
theorem dX0_fewestTurned_2 : decode cX0_fewestTurned 2 = .ok (.invokevirtual 143, 3) := by decide +kernel
theorem dX0_fewestTurned_5 : decode cX0_fewestTurned 5 = .ok (.istore_n 2, 1) := by decide +kernel
theorem dX0_fewestTurned_6 : decode cX0_fewestTurned 6 = .ok (.aload_n 0, 1) := by decide +kernel
theorem dX0_fewestTurned_7 : decode cX0_fewestTurned 7 = .ok (.iload_n 1, 1) := by decide +kernel
theorem dX0_fewestTurned_8 : decode cX0_fewestTurned 8 = .ok (.invokevirtual 146, 3) := by decide +kernel
theorem dX0_fewestTurned_11 : decode cX0_fewestTurned 11 = .ok (.istore_n 3, 1) := by decide +kernel
theorem dX0_fewestTurned_12 : decode cX0_fewestTurned 12 = .ok (.aload_n 0, 1) := by decide +kernel
theorem dX0_fewestTurned_13 : decode cX0_fewestTurned 13 = .ok (.aload_n 0, 1) := by decide +kernel
theorem dX0_fewestTurned_14 : decode cX0_fewestTurned 14 = .ok (.getfield 51, 3) := by decide +kernel
theorem dX0_fewestTurned_17 : decode cX0_fewestTurned 17 = .ok (.iload_n 2, 1) := by decide +kernel
theorem dX0_fewestTurned_18 : decode cX0_fewestTurned 18 = .ok (.iload_n 3, 1) := by decide +kernel
theorem dX0_fewestTurned_19 : decode cX0_fewestTurned 19 = .ok (.invokevirtual 149, 3) := by decide +kernel
theorem dX0_fewestTurned_22 : decode cX0_fewestTurned 22 = .ok (.istore 4, 2) := by decide +kernel
theorem dX0_fewestTurned_24 : decode cX0_fewestTurned 24 = .ok (.iconst (-1), 1) := by decide +kernel
theorem dX0_fewestTurned_25 : decode cX0_fewestTurned 25 = .ok (.istore 5, 2) := by decide +kernel
theorem dX0_fewestTurned_27 : decode cX0_fewestTurned 27 = .ok (.iconst 1, 1) := by decide +kernel
theorem dX0_fewestTurned_28 : decode cX0_fewestTurned 28 = .ok (.istore 6, 2) := by decide +kernel
theorem dX0_fewestTurned_30 : decode cX0_fewestTurned 30 = .ok (.iload 6, 2) := by decide +kernel
theorem dX0_fewestTurned_32 : decode cX0_fewestTurned 32 = .ok (.iconst 1, 1) := by decide +kernel
theorem dX0_fewestTurned_33 : decode cX0_fewestTurned 33 = .ok (.aload_n 0, 1) := by decide +kernel
theorem dX0_fewestTurned_34 : decode cX0_fewestTurned 34 = .ok (.getfield 37, 3) := by decide +kernel
theorem dX0_fewestTurned_37 : decode cX0_fewestTurned 37 = .ok (.ishl, 1) := by decide +kernel
theorem dX0_fewestTurned_38 : decode cX0_fewestTurned 38 = .ok (.if_icmp .ge 60, 3) := by decide +kernel
theorem dX0_fewestTurned_41 : decode cX0_fewestTurned 41 = .ok (.iload 6, 2) := by decide +kernel
theorem dX0_fewestTurned_43 : decode cX0_fewestTurned 43 = .ok (.invokestatic 131, 3) := by decide +kernel
theorem dX0_fewestTurned_46 : decode cX0_fewestTurned 46 = .ok (.istore 7, 2) := by decide +kernel
theorem dX0_fewestTurned_48 : decode cX0_fewestTurned 48 = .ok (.iload 6, 2) := by decide +kernel
theorem dX0_fewestTurned_50 : decode cX0_fewestTurned 50 = .ok (.iload_n 2, 1) := by decide +kernel
theorem dX0_fewestTurned_51 : decode cX0_fewestTurned 51 = .ok (.iconst (-1), 1) := by decide +kernel
theorem dX0_fewestTurned_52 : decode cX0_fewestTurned 52 = .ok (.ixor, 1) := by decide +kernel
theorem dX0_fewestTurned_53 : decode cX0_fewestTurned 53 = .ok (.iand, 1) := by decide +kernel
theorem dX0_fewestTurned_54 : decode cX0_fewestTurned 54 = .ok (.ifCond .ne 38, 3) := by decide +kernel
theorem dX0_fewestTurned_57 : decode cX0_fewestTurned 57 = .ok (.iload 5, 2) := by decide +kernel
theorem dX0_fewestTurned_59 : decode cX0_fewestTurned 59 = .ok (.iconst (-1), 1) := by decide +kernel
theorem dX0_fewestTurned_60 : decode cX0_fewestTurned 60 = .ok (.if_icmp .eq 10, 3) := by decide +kernel
theorem dX0_fewestTurned_63 : decode cX0_fewestTurned 63 = .ok (.iload 7, 2) := by decide +kernel
theorem dX0_fewestTurned_65 : decode cX0_fewestTurned 65 = .ok (.iload 5, 2) := by decide +kernel
theorem dX0_fewestTurned_67 : decode cX0_fewestTurned 67 = .ok (.if_icmp .ge 25, 3) := by decide +kernel
theorem dX0_fewestTurned_70 : decode cX0_fewestTurned 70 = .ok (.aload_n 0, 1) := by decide +kernel
theorem dX0_fewestTurned_71 : decode cX0_fewestTurned 71 = .ok (.aload_n 0, 1) := by decide +kernel
theorem dX0_fewestTurned_72 : decode cX0_fewestTurned 72 = .ok (.getfield 51, 3) := by decide +kernel
theorem dX0_fewestTurned_75 : decode cX0_fewestTurned 75 = .ok (.iload_n 2, 1) := by decide +kernel
theorem dX0_fewestTurned_76 : decode cX0_fewestTurned 76 = .ok (.iload_n 3, 1) := by decide +kernel
theorem dX0_fewestTurned_77 : decode cX0_fewestTurned 77 = .ok (.iload 6, 2) := by decide +kernel
theorem dX0_fewestTurned_79 : decode cX0_fewestTurned 79 = .ok (.ixor, 1) := by decide +kernel
theorem dX0_fewestTurned_80 : decode cX0_fewestTurned 80 = .ok (.invokevirtual 149, 3) := by decide +kernel
theorem dX0_fewestTurned_83 : decode cX0_fewestTurned 83 = .ok (.iload 4, 2) := by decide +kernel
theorem dX0_fewestTurned_85 : decode cX0_fewestTurned 85 = .ok (.if_icmp .eq 7, 3) := by decide +kernel
theorem dX0_fewestTurned_88 : decode cX0_fewestTurned 88 = .ok (.iload 7, 2) := by decide +kernel
theorem dX0_fewestTurned_90 : decode cX0_fewestTurned 90 = .ok (.istore 5, 2) := by decide +kernel
theorem dX0_fewestTurned_92 : decode cX0_fewestTurned 92 = .ok (.iinc 6 1, 3) := by decide +kernel
theorem dX0_fewestTurned_95 : decode cX0_fewestTurned 95 = .ok (.goto (-65), 3) := by decide +kernel
theorem dX0_fewestTurned_98 : decode cX0_fewestTurned 98 = .ok (.iload 5, 2) := by decide +kernel
theorem dX0_fewestTurned_100 : decode cX0_fewestTurned 100 = .ok (.ireturn, 1) := by decide +kernel
abbrev rmX0_fewestTurned : Room := { frames := 3, cells := 0, slots := 0, locals := 68 }
set_option maxHeartbeats 4000000 in
set_option maxRecDepth 100000 in
theorem kX0_fewestTurned (l : Launch) (D : va_G) (cy : Nat → ClassId) (h0 : Nat) (a0 : Nat → Nat) (s0 : Rc) (p1 : Int32) (res : Int32) (h : fX0_fewestTurned p1 s0 = some res) : CI l D cy yX0_fewestTurned wsX0_fewestTurned rmX0_fewestTurned [.ref h0, .int p1] (flat [WX0 cy h0 a0 s0]) (flat [WX0 cy h0 a0 s0]) res := by
  refine CI.of (cc := cX0_fewestTurned) (maxL := 8) (by decide) rfl (Nat.le_of_ble_eq_true rfl) ?_
  intro p e s m args below meth c A QQ ls E hr
  obtain ⟨hx, hb, hml, hown, hts, hK, hN, hP, hD, hA, hl⟩ := E
  have hret : ∀ (pc : Nat) (H : Heap) (locs : List Loc) (ls : Array Slot) (u : Int32), u = res → va_P D vwCl (flat [WX0 cy h0 a0 s0]) H → va_D A (flat [WX0 cy h0 a0 s0]) → va_S A s.heap H locs → decode cX0_fewestTurned pc = .ok (.ireturn, 1) → W p l e rmX0_fewestTurned s m args below meth c H locs 0 0 QQ (F0 m pc ls [.int u]) := by
    intro pc H locs ls u hu hP hD hS hd; subst hu; exact hr pc H locs ls _ rfl hP hD hS hd
  clear hr
  have hl : lv_has ls 8 [(0, .ref h0), (1, .int p1)] := hl
  have hinX0 : ∀ w ∈ wsX00, w ∈ wsX0_fewestTurned := fun _ h => List.mem_cons_of_mem _ (List.mem_append_right _ h)
  unfold fX0_fewestTurned at h
  suffices key : ∀ (H : Heap) (locs : List Loc), va_P D vwCl (flat [WX0 cy h0 a0 s0]) H → va_S A s.heap H locs → W p l e rmX0_fewestTurned s m args below meth c H locs 0 0 QQ (F0 m 0 ls []) from key _ _ hP va_S.rf
  clear hP
  intro H locs hP hS
  refine lv_aload_n hx hb dX0_fewestTurned_0 rfl (lv_at hl 0 rfl) ?_
  refine lv_iload_n hx hb dX0_fewestTurned_1 rfl (lv_at hl 1 rfl) ?_
  obtain ⟨r1, hr1, h⟩ := bd_elim h
  refine ca_i (w' := [WX0 cy h0 a0 s0]) (rn_V (As := [.int p1]) (rest := []) ⟨hx, hb, hml, hown, hts⟩ (kX0_tellersOf l D cy h0 a0 s0 p1 r1 hr1 H.size) (cwV 1 hts gX0_fewestTurned_X0_tellersOf rfl rfl rfl (by decide +kernel) ⟨Nat.le_of_ble_eq_true rfl, Nat.le_of_ble_eq_true rfl⟩) hK hN hP hD [0] rfl rfl (ci := 0) (q0 := 0) rfl rfl rfl rfl hl.1 rfl (Nat.le_of_ble_eq_true rfl) dX0_fewestTurned_2 ⟨Nat.le_refl 0, Nat.le_refl 0⟩) hP hD hS hA [0] ⟨rfl, rfl, rfl, rfl⟩ (fun H locs hP hD hS => ?_)
  refine lv_istore_n (lv' := [(2, .int r1), (0, .ref h0), (1, .int p1)]) hx hb dX0_fewestTurned_5 rfl hl (by decide) rfl (fun ls hl => ?_)
  refine lv_aload_n hx hb dX0_fewestTurned_6 rfl (lv_at hl 1 rfl) ?_
  refine lv_iload_n hx hb dX0_fewestTurned_7 rfl (lv_at hl 2 rfl) ?_
  obtain ⟨r2, hr2, h⟩ := bd_elim h
  refine ca_i (w' := [WX0 cy h0 a0 s0]) (rn_V (As := [.int p1]) (rest := []) ⟨hx, hb, hml, hown, hts⟩ (kX0_believersOf l D cy h0 a0 s0 p1 r2 hr2 H.size) (cwV 1 hts gX0_fewestTurned_X0_believersOf rfl rfl rfl (by decide +kernel) ⟨Nat.le_of_ble_eq_true rfl, Nat.le_of_ble_eq_true rfl⟩) hK hN hP hD [0] rfl rfl (ci := 0) (q0 := 0) rfl rfl rfl rfl hl.1 rfl (Nat.le_of_ble_eq_true rfl) dX0_fewestTurned_8 ⟨Nat.le_refl 0, Nat.le_refl 0⟩) hP hD hS hA [0] ⟨rfl, rfl, rfl, rfl⟩ (fun H locs hP hD hS => ?_)
  refine lv_istore_n (lv' := [(3, .int r2), (2, .int r1), (0, .ref h0), (1, .int p1)]) hx hb dX0_fewestTurned_11 rfl hl (by decide) rfl (fun ls hl => ?_)
  refine lv_aload_n hx hb dX0_fewestTurned_12 rfl (lv_at hl 2 rfl) ?_
  refine lv_aload_n hx hb dX0_fewestTurned_13 rfl (lv_at hl 2 rfl) ?_
  refine va_get (D := D) (ci := 0) (v := .int (gi s0 12)) (C := RX0) (T := TX0) (N := 14) hx hb hts hinX0 hown hK hP 0 rfl rfl 12 (by decide) (hts (.fieldLink RX0 51 "KneeBench$Bench" "vote" "I") (List.mem_of_getElem? (i := 1) rfl)) (fun _ h9 => h9) rfl dX0_fewestTurned_14 ?_
  refine lv_iload_n hx hb dX0_fewestTurned_17 rfl (lv_at hl 1 rfl) ?_
  refine lv_iload_n hx hb dX0_fewestTurned_18 rfl (lv_at hl 0 rfl) ?_
  obtain ⟨r3, hr3, h⟩ := bd_elim h
  refine ca_i (w' := [WX0 cy h0 a0 s0]) (rn_V (As := [.int (gi s0 12), .int r1, .int r2]) (rest := []) ⟨hx, hb, hml, hown, hts⟩ (kX0_verdict l D cy h0 a0 s0 (gi s0 12) r1 r2 r3 hr3 H.size) (cwV 3 hts gX0_fewestTurned_X0_verdict rfl rfl rfl (by decide +kernel) ⟨Nat.le_of_ble_eq_true rfl, Nat.le_of_ble_eq_true rfl⟩) hK hN hP hD [0] rfl rfl (ci := 0) (q0 := 0) rfl rfl rfl rfl hl.1 rfl (Nat.le_of_ble_eq_true rfl) dX0_fewestTurned_19 ⟨Nat.le_refl 0, Nat.le_refl 0⟩) hP hD hS hA [0] ⟨rfl, rfl, rfl, rfl⟩ (fun H locs hP hD hS => ?_)
  refine lv_istore (lv' := [(4, .int r3), (3, .int r2), (2, .int r1), (0, .ref h0), (1, .int p1)]) hx hb dX0_fewestTurned_22 hl (by decide) rfl (fun ls hl => ?_)
  refine lv_iconst (v := -1) hx hb dX0_fewestTurned_24 (by decide) ?_
  refine lv_istore (lv' := [(5, .int (-1 : Int32)), (4, .int r3), (3, .int r2), (2, .int r1), (0, .ref h0), (1, .int p1)]) hx hb dX0_fewestTurned_25 hl (by decide) rfl (fun ls hl => ?_)
  refine lv_iconst (v := 1) hx hb dX0_fewestTurned_27 (by decide) ?_
  refine lv_istore (lv' := [(6, .int (1 : Int32)), (5, .int (-1 : Int32)), (4, .int r3), (3, .int r2), (2, .int r1), (0, .ref h0), (1, .int p1)]) hx hb dX0_fewestTurned_28 hl (by decide) rfl (fun ls hl => ?_)
  have L30 : ∀ (n : Nat) (q30 : Int32 × Int32) (o : Int32), loopO (fX0_fewestTurned_L30 s0 r1 r2 r3) n q30 = some o → ∀ (H : Heap) (locs : List Loc) (ls : Array Slot), lv_has ls 8 [(4, .int r3), (3, .int r2), (2, .int r1), (0, .ref h0), (5, .int q30.1), (6, .int q30.2)] → va_P D vwCl (flat [WX0 cy h0 a0 s0]) H → va_D A (flat [WX0 cy h0 a0 s0]) → va_S A s.heap H locs → ∀ (kk98 : ∀ (H : Heap) (locs : List Loc) (ls : Array Slot), lv_has ls 8 [(5, .int o)] → va_P D vwCl (flat [WX0 cy h0 a0 s0]) H → va_D A (flat [WX0 cy h0 a0 s0]) → va_S A s.heap H locs → W p l e rmX0_fewestTurned s m args below meth c H locs 0 0 QQ (F0 m 98 ls [])), W p l e rmX0_fewestTurned s m args below meth c H locs 0 0 QQ (F0 m 30 ls []) := by
    intro n
    induction n with
    | zero => intro q30 o h; exact absurd h (by rw [loopO_zero]; intro z; cases z)
    | succ n ih =>
      intro q30 o h H locs ls hl hP hD hS kk98
      obtain ⟨w, h, hgo, hst⟩ := loopO_elim h
      unfold fX0_fewestTurned_L30 at h
      have J70 : ∀ (y70_7 : Int32) (H : Heap) (locs : List Loc) (ls : Array Slot), lv_has ls 8 [(4, .int r3), (3, .int r2), (2, .int r1), (0, .ref h0), (5, .int q30.1), (6, .int q30.2), (7, .int y70_7)] → va_P D vwCl (flat [WX0 cy h0 a0 s0]) H → va_D A (flat [WX0 cy h0 a0 s0]) → va_S A s.heap H locs → fX0_fewestTurned_J70 s0 r1 r2 r3 q30 y70_7 = some w → W p l e rmX0_fewestTurned s m args below meth c H locs 0 0 QQ (F0 m 70 ls []) := by
        intro y70_7 H locs ls hl hP hD hS h
        unfold fX0_fewestTurned_J70 at h
        refine lv_aload_n hx hb dX0_fewestTurned_70 rfl (lv_at hl 3 rfl) ?_
        refine lv_aload_n hx hb dX0_fewestTurned_71 rfl (lv_at hl 3 rfl) ?_
        refine va_get (D := D) (ci := 0) (v := .int (gi s0 12)) (C := RX0) (T := TX0) (N := 14) hx hb hts hinX0 hown hK hP 0 rfl rfl 12 (by decide) (hts (.fieldLink RX0 51 "KneeBench$Bench" "vote" "I") (List.mem_of_getElem? (i := 1) rfl)) (fun _ h9 => h9) rfl dX0_fewestTurned_72 ?_
        refine lv_iload_n hx hb dX0_fewestTurned_75 rfl (lv_at hl 2 rfl) ?_
        refine lv_iload_n hx hb dX0_fewestTurned_76 rfl (lv_at hl 1 rfl) ?_
        refine lv_iload hx hb dX0_fewestTurned_77 (lv_at hl 5 rfl) ?_
        refine lv_ixor hx hb dX0_fewestTurned_79 ?_
        obtain ⟨r4, hr4, h⟩ := bd_elim h
        refine ca_i (w' := [WX0 cy h0 a0 s0]) (rn_V (As := [.int (gi s0 12), .int r1, .int (r2 ^^^ q30.2)]) (rest := []) ⟨hx, hb, hml, hown, hts⟩ (kX0_verdict l D cy h0 a0 s0 (gi s0 12) r1 (r2 ^^^ q30.2) r4 hr4 H.size) (cwV 3 hts gX0_fewestTurned_X0_verdict rfl rfl rfl (by decide +kernel) ⟨Nat.le_of_ble_eq_true rfl, Nat.le_of_ble_eq_true rfl⟩) hK hN hP hD [0] rfl rfl (ci := 0) (q0 := 0) rfl rfl rfl rfl hl.1 rfl (Nat.le_of_ble_eq_true rfl) dX0_fewestTurned_80 ⟨Nat.le_refl 0, Nat.le_refl 0⟩) hP hD hS hA [0] ⟨rfl, rfl, rfl, rfl⟩ (fun H locs hP hD hS => ?_)
        refine lv_iload hx hb dX0_fewestTurned_83 (lv_at hl 0 rfl) ?_
        refine lv_icmp_eq (tgt := 92) hx hb dX0_fewestTurned_85 (by decide) (fun c5 => ?_) (fun c5 => ?_)
        · replace h := (if_pos c5).symm.trans h
          refine lv_iinc (v := (q30.2 + (1 : Int32))) (lv' := [(6, .int (q30.2 + (1 : Int32))), (4, .int r3), (3, .int r2), (2, .int r1), (0, .ref h0), (5, .int q30.1), (7, .int y70_7)]) hx hb dX0_fewestTurned_92 hl (k := 5) rfl rfl (by decide) rfl (fun ls hl => ?_)
          refine lv_goto (tgt := 30) hx hb dX0_fewestTurned_95 (by decide) ?_
          exact ih _ o (hgo _ (Option.some.inj h).symm) H locs ls (lv_sub hl [1, 2, 3, 4, 5, 0] rfl) hP hD hS kk98
        · replace h := (if_neg c5).symm.trans h
          refine lv_iload hx hb dX0_fewestTurned_88 (lv_at hl 6 rfl) ?_
          refine lv_istore (lv' := [(5, .int y70_7), (4, .int r3), (3, .int r2), (2, .int r1), (0, .ref h0), (6, .int q30.2), (7, .int y70_7)]) hx hb dX0_fewestTurned_90 hl (by decide) rfl (fun ls hl => ?_)
          refine lv_iinc (v := (q30.2 + (1 : Int32))) (lv' := [(6, .int (q30.2 + (1 : Int32))), (5, .int y70_7), (4, .int r3), (3, .int r2), (2, .int r1), (0, .ref h0), (7, .int y70_7)]) hx hb dX0_fewestTurned_92 hl (k := 5) rfl rfl (by decide) rfl (fun ls hl => ?_)
          refine lv_goto (tgt := 30) hx hb dX0_fewestTurned_95 (by decide) ?_
          exact ih _ o (hgo _ (Option.some.inj h).symm) H locs ls (lv_sub hl [2, 3, 4, 5, 1, 0] rfl) hP hD hS kk98
      refine lv_iload hx hb dX0_fewestTurned_30 (lv_at hl 5 rfl) ?_
      refine lv_iconst (v := 1) hx hb dX0_fewestTurned_32 (by decide) ?_
      refine lv_aload_n hx hb dX0_fewestTurned_33 rfl (lv_at hl 3 rfl) ?_
      refine va_get (D := D) (ci := 0) (v := .int (gi s0 8)) (C := RX0) (T := TX0) (N := 14) hx hb hts hinX0 hown hK hP 0 rfl rfl 8 (by decide) (hts (.fieldLink RX0 37 "KneeBench$Bench" "farmers" "I") (List.mem_of_getElem? (i := 2) rfl)) (fun _ h9 => h9) rfl dX0_fewestTurned_34 ?_
      refine lv_ishl hx hb dX0_fewestTurned_37 ?_
      refine lv_icmp_ge (tgt := 98) hx hb dX0_fewestTurned_38 (by decide) (fun c6 => ?_) (fun c6 => ?_)
      · replace h := (if_pos c6).symm.trans h
        have eo := hst _ (Option.some.inj h).symm
        subst eo
        exact kk98 H locs ls (lv_sub hl [4] rfl) hP hD hS
      · replace h := (if_neg c6).symm.trans h
        refine lv_iload hx hb dX0_fewestTurned_41 (lv_at hl 5 rfl) ?_
        refine ca_i (w' := [WX0 cy h0 a0 s0]) (rn_S (As := [.int q30.2]) (rest := []) ⟨hx, hb, hml, hown, hts⟩ (kJ6_bitCount_0f7a4 l D cy q30.2 _ rfl H.size) (va_cwS 1 hts gX0_fewestTurned_J6_bitCount_0f7a4 rfl rfl rfl (by decide +kernel) ⟨Nat.le_of_ble_eq_true rfl, Nat.le_of_ble_eq_true rfl⟩) hK hN hP hD [] rfl rfl rfl hl.1 rfl (Nat.le_of_ble_eq_true rfl) dX0_fewestTurned_43 ⟨Nat.le_refl 0, Nat.le_refl 0⟩) hP hD hS hA [] ⟨rfl, rfl, rfl, rfl⟩ (fun H locs hP hD hS => ?_)
        refine lv_topi (fun x7 ex7 => ?_)
        replace h := lt_use h x7 ex7
        refine lv_istore (lv' := [(7, .int x7), (4, .int r3), (3, .int r2), (2, .int r1), (0, .ref h0), (5, .int q30.1), (6, .int q30.2)]) hx hb dX0_fewestTurned_46 hl (by decide) rfl (fun ls hl => ?_)
        refine lv_iload hx hb dX0_fewestTurned_48 (lv_at hl 6 rfl) ?_
        refine lv_iload_n hx hb dX0_fewestTurned_50 rfl (lv_at hl 3 rfl) ?_
        refine lv_iconst (v := -1) hx hb dX0_fewestTurned_51 (by decide) ?_
        refine lv_ixor hx hb dX0_fewestTurned_52 ?_
        refine lv_iand hx hb dX0_fewestTurned_53 ?_
        refine lv_if_ne (tgt := 92) hx hb dX0_fewestTurned_54 (by decide) (fun c8 => ?_) (fun c8 => ?_)
        · replace h := (if_neg c8).symm.trans h
          refine lv_iinc (v := (q30.2 + (1 : Int32))) (lv' := [(6, .int (q30.2 + (1 : Int32))), (7, .int x7), (4, .int r3), (3, .int r2), (2, .int r1), (0, .ref h0), (5, .int q30.1)]) hx hb dX0_fewestTurned_92 hl (k := 6) rfl rfl (by decide) rfl (fun ls hl => ?_)
          refine lv_goto (tgt := 30) hx hb dX0_fewestTurned_95 (by decide) ?_
          exact ih _ o (hgo _ (Option.some.inj h).symm) H locs ls (lv_sub hl [2, 3, 4, 5, 6, 0] rfl) hP hD hS kk98
        · replace h := (if_pos c8).symm.trans h
          refine lv_iload hx hb dX0_fewestTurned_57 (lv_at hl 5 rfl) ?_
          refine lv_iconst (v := -1) hx hb dX0_fewestTurned_59 (by decide) ?_
          refine lv_icmp_eq (tgt := 70) hx hb dX0_fewestTurned_60 (by decide) (fun c9 => ?_) (fun c9 => ?_)
          · replace h := (if_pos c9).symm.trans h
            exact J70 x7 H locs ls (lv_sub hl [1, 2, 3, 4, 5, 6, 0] rfl) hP hD hS h
          · replace h := (if_neg c9).symm.trans h
            refine lv_iload hx hb dX0_fewestTurned_63 (lv_at hl 0 rfl) ?_
            refine lv_iload hx hb dX0_fewestTurned_65 (lv_at hl 5 rfl) ?_
            refine lv_icmp_ge (tgt := 92) hx hb dX0_fewestTurned_67 (by decide) (fun c10 => ?_) (fun c10 => ?_)
            · replace h := (if_pos c10).symm.trans h
              refine lv_iinc (v := (q30.2 + (1 : Int32))) (lv' := [(6, .int (q30.2 + (1 : Int32))), (7, .int x7), (4, .int r3), (3, .int r2), (2, .int r1), (0, .ref h0), (5, .int q30.1)]) hx hb dX0_fewestTurned_92 hl (k := 6) rfl rfl (by decide) rfl (fun ls hl => ?_)
              refine lv_goto (tgt := 30) hx hb dX0_fewestTurned_95 (by decide) ?_
              exact ih _ o (hgo _ (Option.some.inj h).symm) H locs ls (lv_sub hl [2, 3, 4, 5, 6, 0] rfl) hP hD hS kk98
            · replace h := (if_neg c10).symm.trans h
              exact J70 x7 H locs ls (lv_sub hl [1, 2, 3, 4, 5, 6, 0] rfl) hP hD hS h
  obtain ⟨o30, ho30, h⟩ := bd_elim h
  obtain ⟨n30, hn30⟩ := loopF_some ho30
  refine L30 n30 _ o30 hn30 H locs ls (lv_sub hl [2, 3, 4, 5, 1, 0] rfl) hP hD hS (fun H locs ls hl hP hD hS => ?_)
  refine lv_iload hx hb dX0_fewestTurned_98 (lv_at hl 0 rfl) ?_
  exact hret 100 H locs ls o30 (Option.some.inj h) hP hD hS dX0_fewestTurned_100
theorem gd_X0_fitsBy : wsX0_fitsBy.all goodWord = true := by decide +kernel
set_option maxRecDepth 20000 in
theorem ggX0_fitsBy_X0_daysThere : GoodIn wsX0_fitsBy wsX0_daysThere := goodIn_by gd_X0_fitsBy (List.forall_mem_cons.mpr ⟨List.mem_cons_of_mem _ (List.mem_append_left _ (List.mem_append_left _ (List.mem_of_getElem? (i := 6) rfl))), List.forall_mem_append.mpr ⟨List.forall_mem_cons.mpr ⟨List.mem_cons_of_mem _ (List.mem_append_left _ (List.mem_append_left _ (List.mem_of_getElem? (i := 7) rfl))), List.forall_mem_cons.mpr ⟨List.mem_cons_of_mem _ (List.mem_append_left _ (List.mem_append_left _ (List.mem_of_getElem? (i := 8) rfl))), List.forall_mem_cons.mpr ⟨List.mem_cons_of_mem _ (List.mem_append_left _ (List.mem_append_left _ (List.mem_of_getElem? (i := 9) rfl))), List.forall_mem_cons.mpr ⟨List.mem_cons_of_mem _ (List.mem_append_left _ (List.mem_append_left _ (List.mem_of_getElem? (i := 10) rfl))), nowords_in⟩⟩⟩⟩, (fun _ h => List.mem_cons_of_mem _ (List.mem_append_right _ (h)))⟩⟩)
set_option maxRecDepth 20000 in
theorem gX0_fitsBy_X0_daysThere : GoodIn wsX0_fitsBy (wsV RX0 112 RX0 yX0_daysThere wsX0_daysThere) := goodIn_app (goodIn_by gd_X0_fitsBy (List.forall_mem_cons.mpr ⟨List.mem_cons_of_mem _ (List.mem_append_left _ (List.mem_append_left _ (List.mem_of_getElem? (i := 2) rfl))), List.forall_mem_cons.mpr ⟨List.mem_cons_of_mem _ (List.mem_append_left _ (List.mem_append_left _ (List.mem_of_getElem? (i := 3) rfl))), List.forall_mem_cons.mpr ⟨List.mem_cons_of_mem _ (List.mem_append_left _ (List.mem_append_left _ (List.mem_of_getElem? (i := 4) rfl))), List.forall_mem_cons.mpr ⟨List.mem_cons_of_mem _ (List.mem_append_left _ (List.mem_append_left _ (List.mem_of_getElem? (i := 5) rfl))), nowords_in⟩⟩⟩⟩)) ggX0_fitsBy_X0_daysThere
set_option maxRecDepth 20000 in
theorem ggX0_fitsBy_X10_later : GoodIn wsX0_fitsBy wsX10_later := goodIn_by gd_X0_fitsBy (List.forall_mem_cons.mpr ⟨List.mem_cons_of_mem _ (List.mem_append_left _ (List.mem_append_left _ (List.mem_of_getElem? (i := 12) rfl))), nowords_in⟩)
set_option maxRecDepth 20000 in
theorem gX0_fitsBy_X10_later_n87 : GoodIn wsX0_fitsBy (wsX10_later) := ggX0_fitsBy_X10_later
set_option maxRecDepth 20000 in
theorem ggX0_fitsBy_X0_feltWeather : GoodIn wsX0_fitsBy wsX0_feltWeather := goodIn_by gd_X0_fitsBy (List.forall_mem_cons.mpr ⟨List.mem_cons_of_mem _ (List.mem_append_left _ (List.mem_append_left _ (List.mem_of_getElem? (i := 16) rfl))), List.forall_mem_append.mpr ⟨List.forall_mem_cons.mpr ⟨List.mem_cons_of_mem _ (List.mem_append_left _ (List.mem_append_left _ (List.mem_of_getElem? (i := 17) rfl))), List.forall_mem_cons.mpr ⟨List.mem_cons_of_mem _ (List.mem_append_left _ (List.mem_append_left _ (List.mem_of_getElem? (i := 18) rfl))), List.forall_mem_cons.mpr ⟨List.mem_cons_of_mem _ (List.mem_append_left _ (List.mem_append_left _ (List.mem_of_getElem? (i := 19) rfl))), List.forall_mem_cons.mpr ⟨List.mem_cons_of_mem _ (List.mem_append_left _ (List.mem_append_left _ (List.mem_of_getElem? (i := 20) rfl))), List.forall_mem_cons.mpr ⟨List.mem_cons_of_mem _ (List.mem_append_left _ (List.mem_append_left _ (List.mem_of_getElem? (i := 21) rfl))), List.forall_mem_cons.mpr ⟨List.mem_cons_of_mem _ (List.mem_append_left _ (List.mem_append_left _ (List.mem_of_getElem? (i := 5) rfl))), List.forall_mem_cons.mpr ⟨List.mem_cons_of_mem _ (List.mem_append_left _ (List.mem_append_left _ (List.mem_of_getElem? (i := 22) rfl))), List.forall_mem_cons.mpr ⟨List.mem_cons_of_mem _ (List.mem_append_left _ (List.mem_append_left _ (List.mem_of_getElem? (i := 23) rfl))), nowords_in⟩⟩⟩⟩⟩⟩⟩⟩, (fun _ h => List.mem_cons_of_mem _ (List.mem_append_right _ (h)))⟩⟩)
set_option maxRecDepth 20000 in
theorem gX0_fitsBy_X0_feltWeather : GoodIn wsX0_fitsBy (wsV RX0 84 RX0 yX0_feltWeather wsX0_feltWeather) := goodIn_app (goodIn_by gd_X0_fitsBy (List.forall_mem_cons.mpr ⟨List.mem_cons_of_mem _ (List.mem_append_left _ (List.mem_append_left _ (List.mem_of_getElem? (i := 13) rfl))), List.forall_mem_cons.mpr ⟨List.mem_cons_of_mem _ (List.mem_append_left _ (List.mem_append_left _ (List.mem_of_getElem? (i := 14) rfl))), List.forall_mem_cons.mpr ⟨List.mem_cons_of_mem _ (List.mem_append_left _ (List.mem_append_left _ (List.mem_of_getElem? (i := 15) rfl))), List.forall_mem_cons.mpr ⟨List.mem_cons_of_mem _ (List.mem_append_left _ (List.mem_append_left _ (List.mem_of_getElem? (i := 5) rfl))), nowords_in⟩⟩⟩⟩)) ggX0_fitsBy_X0_feltWeather
set_option maxRecDepth 20000 in
theorem ggX0_fitsBy_J13_bitCount_95d88 : GoodIn wsX0_fitsBy wsJ13_bitCount_95d88 := goodIn_by gd_X0_fitsBy (List.forall_mem_cons.mpr ⟨List.mem_cons_of_mem _ (List.mem_append_left _ (List.mem_append_right _ (List.mem_of_getElem? (i := 3) rfl))), List.forall_mem_cons.mpr ⟨List.mem_cons_of_mem _ (List.mem_append_left _ (List.mem_append_right _ (List.mem_of_getElem? (i := 4) rfl))), List.forall_mem_cons.mpr ⟨List.mem_cons_of_mem _ (List.mem_append_left _ (List.mem_append_right _ (List.mem_of_getElem? (i := 5) rfl))), List.forall_mem_cons.mpr ⟨List.mem_cons_of_mem _ (List.mem_append_left _ (List.mem_append_right _ (List.mem_of_getElem? (i := 6) rfl))), nowords_in⟩⟩⟩⟩)
set_option maxRecDepth 20000 in
theorem gX0_fitsBy_J13_bitCount_95d88 : GoodIn wsX0_fitsBy (va_wsS RX0 103 yJ13_bitCount_95d88 wsJ13_bitCount_95d88) := goodIn_app (goodIn_by gd_X0_fitsBy (List.forall_mem_cons.mpr ⟨List.mem_cons_of_mem _ (List.mem_append_left _ (List.mem_append_right _ (List.mem_of_getElem? (i := 0) rfl))), List.forall_mem_cons.mpr ⟨List.mem_cons_of_mem _ (List.mem_append_left _ (List.mem_append_right _ (List.mem_of_getElem? (i := 1) rfl))), List.forall_mem_cons.mpr ⟨List.mem_cons_of_mem _ (List.mem_append_left _ (List.mem_append_right _ (List.mem_of_getElem? (i := 2) rfl))), nowords_in⟩⟩⟩)) ggX0_fitsBy_J13_bitCount_95d88
theorem dX0_fitsBy_0 : decode cX0_fitsBy 0 = .ok (.aload_n 0, 1) := by decide +kernel
theorem dX0_fitsBy_1 : decode cX0_fitsBy 1 = .ok (.invokevirtual 112, 3) := by decide +kernel
theorem dX0_fitsBy_4 : decode cX0_fitsBy 4 = .ok (.aload_n 0, 1) := by decide +kernel
theorem dX0_fitsBy_5 : decode cX0_fitsBy 5 = .ok (.invokevirtual 112, 3) := by decide +kernel
theorem dX0_fitsBy_8 : decode cX0_fitsBy 8 = .ok (.iload_n 2, 1) := by decide +kernel
theorem dX0_fitsBy_9 : decode cX0_fitsBy 9 = .ok (.ineg, 1) := by decide +kernel
theorem dX0_fitsBy_10 : decode cX0_fitsBy 10 = .ok (.invokestatic 87, 3) := by decide +kernel
theorem dX0_fitsBy_13 : decode cX0_fitsBy 13 = .ok (.land, 1) := by decide +kernel
theorem dX0_fitsBy_14 : decode cX0_fitsBy 14 = .ok (.lstore_n 3, 1) := by decide +kernel
theorem dX0_fitsBy_15 : decode cX0_fitsBy 15 = .ok (.lload_n 3, 1) := by decide +kernel
theorem dX0_fitsBy_16 : decode cX0_fitsBy 16 = .ok (.aload_n 0, 1) := by decide +kernel
theorem dX0_fitsBy_17 : decode cX0_fitsBy 17 = .ok (.getfield 31, 3) := by decide +kernel
theorem dX0_fitsBy_20 : decode cX0_fitsBy 20 = .ok (.iload_n 1, 1) := by decide +kernel
theorem dX0_fitsBy_21 : decode cX0_fitsBy 21 = .ok (.laload, 1) := by decide +kernel
theorem dX0_fitsBy_22 : decode cX0_fitsBy 22 = .ok (.aload_n 0, 1) := by decide +kernel
theorem dX0_fitsBy_23 : decode cX0_fitsBy 23 = .ok (.iload_n 1, 1) := by decide +kernel
theorem dX0_fitsBy_24 : decode cX0_fitsBy 24 = .ok (.invokevirtual 84, 3) := by decide +kernel
theorem dX0_fitsBy_27 : decode cX0_fitsBy 27 = .ok (.iload_n 2, 1) := by decide +kernel
theorem dX0_fitsBy_28 : decode cX0_fitsBy 28 = .ok (.ineg, 1) := by decide +kernel
theorem dX0_fitsBy_29 : decode cX0_fitsBy 29 = .ok (.invokestatic 87, 3) := by decide +kernel
theorem dX0_fitsBy_32 : decode cX0_fitsBy 32 = .ok (.lxor, 1) := by decide +kernel
theorem dX0_fitsBy_33 : decode cX0_fitsBy 33 = .ok (.ldc2_w 116, 3) := by decide +kernel
theorem dX0_fitsBy_36 : decode cX0_fitsBy 36 = .ok (.lxor, 1) := by decide +kernel
theorem dX0_fitsBy_37 : decode cX0_fitsBy 37 = .ok (.land, 1) := by decide +kernel
theorem dX0_fitsBy_38 : decode cX0_fitsBy 38 = .ok (.invokestatic 103, 3) := by decide +kernel
theorem dX0_fitsBy_41 : decode cX0_fitsBy 41 = .ok (.ireturn, 1) := by decide +kernel
abbrev rmX0_fitsBy : Room := { frames := 2, cells := 0, slots := 0, locals := 42 }
set_option maxHeartbeats 4000000 in
set_option maxRecDepth 100000 in
theorem kX0_fitsBy (l : Launch) (D : va_G) (cy : Nat → ClassId) (h0 : Nat) (a0 : Nat → Nat) (s0 : Rc) (p1 : Int32) (p2 : Int32) (res : Int32) (h : fX0_fitsBy p1 p2 s0 = some res) : CI l D cy yX0_fitsBy wsX0_fitsBy rmX0_fitsBy [.ref h0, .int p1, .int p2] (flat [WX0 cy h0 a0 s0]) (flat [WX0 cy h0 a0 s0]) res := by
  refine CI.of (cc := cX0_fitsBy) (maxL := 5) (by decide) rfl (Nat.le_of_ble_eq_true rfl) ?_
  intro p e s m args below meth c A QQ ls E hr
  obtain ⟨hx, hb, hml, hown, hts, hK, hN, hP, hD, hA, hl⟩ := E
  have hret : ∀ (pc : Nat) (H : Heap) (locs : List Loc) (ls : Array Slot) (u : Int32), u = res → va_P D vwCl (flat [WX0 cy h0 a0 s0]) H → va_D A (flat [WX0 cy h0 a0 s0]) → va_S A s.heap H locs → decode cX0_fitsBy pc = .ok (.ireturn, 1) → W p l e rmX0_fitsBy s m args below meth c H locs 0 0 QQ (F0 m pc ls [.int u]) := by
    intro pc H locs ls u hu hP hD hS hd; subst hu; exact hr pc H locs ls _ rfl hP hD hS hd
  clear hr
  have hl : lv_has ls 5 [(0, .ref h0), (1, .int p1), (2, .int p2)] := hl
  have hinX0 : ∀ w ∈ wsX00, w ∈ wsX0_fitsBy := fun _ h => List.mem_cons_of_mem _ (List.mem_append_right _ h)
  unfold fX0_fitsBy at h
  suffices key : ∀ (H : Heap) (locs : List Loc), va_P D vwCl (flat [WX0 cy h0 a0 s0]) H → va_S A s.heap H locs → W p l e rmX0_fitsBy s m args below meth c H locs 0 0 QQ (F0 m 0 ls []) from key _ _ hP va_S.rf
  clear hP
  intro H locs hP hS
  refine lv_aload_n hx hb dX0_fitsBy_0 rfl (lv_at hl 0 rfl) ?_
  refine ca_l (w' := [WX0 cy h0 a0 s0]) (rn_V (As := []) (rest := []) ⟨hx, hb, hml, hown, hts⟩ (kX0_daysThere l D cy h0 a0 s0 _ rfl H.size) (cwV 0 hts gX0_fitsBy_X0_daysThere rfl rfl rfl (by decide +kernel) ⟨Nat.le_of_ble_eq_true rfl, Nat.le_of_ble_eq_true rfl⟩) hK hN hP hD [0] rfl rfl (ci := 0) (q0 := 0) rfl rfl rfl rfl hl.1 rfl (Nat.le_of_ble_eq_true rfl) dX0_fitsBy_1 ⟨Nat.le_refl 0, Nat.le_refl 0⟩) hP hD hS hA [0] ⟨rfl, rfl, rfl, rfl⟩ (fun H locs hP hD hS => ?_)
  refine lv_aload_n hx hb dX0_fitsBy_4 rfl (lv_at hl 0 rfl) ?_
  refine ca_l (w' := [WX0 cy h0 a0 s0]) (rn_V (As := []) (rest := [.long (fX0_daysThere s0)]) ⟨hx, hb, hml, hown, hts⟩ (kX0_daysThere l D cy h0 a0 s0 _ rfl H.size) (cwV 0 hts gX0_fitsBy_X0_daysThere rfl rfl rfl (by decide +kernel) ⟨Nat.le_of_ble_eq_true rfl, Nat.le_of_ble_eq_true rfl⟩) hK hN hP hD [0] rfl rfl (ci := 0) (q0 := 0) rfl rfl rfl rfl hl.1 rfl (Nat.le_of_ble_eq_true rfl) dX0_fitsBy_5 ⟨Nat.le_refl 0, Nat.le_refl 0⟩) hP hD hS hA [0] ⟨rfl, rfl, rfl, rfl⟩ (fun H locs hP hD hS => ?_)
  refine lv_iload_n hx hb dX0_fitsBy_8 rfl (lv_at hl 2 rfl) ?_
  refine lv_ineg hx hb dX0_fitsBy_9 ?_
  refine ca_l (w' := [WX0 cy h0 a0 s0]) (rn_SN (As := [.long (fX0_daysThere s0), .int (-p2)]) (rest := [.long (fX0_daysThere s0)]) ⟨hx, hb, hml, hown, hts⟩ (kX10_later l D cy (fX0_daysThere s0) (-p2) _ rfl H.size) ⟨va_cnB 2 hts gX0_fitsBy_X10_later_n87 rfl rfl rfl (NW.met hN 12 rfl) (hts (.initialized RX10) (List.mem_of_getElem? (i := 10) rfl)) (by decide +kernel) ⟨Nat.le_of_ble_eq_true rfl, Nat.le_of_ble_eq_true rfl⟩, hts (.static yX10_later) (List.mem_of_getElem? (i := 12) rfl), trivial⟩ hK hN hP hD [] rfl rfl rfl hl.1 rfl (Nat.le_of_ble_eq_true rfl) dX0_fitsBy_10 ⟨Nat.le_refl 0, Nat.le_refl 0⟩) hP hD hS hA [] ⟨rfl, rfl, rfl, rfl⟩ (fun H locs hP hD hS => ?_)
  refine lv_land hx hb dX0_fitsBy_13 ?_
  refine lv_topl (fun x1 ex1 => ?_)
  replace h := lt_use h x1 ex1
  refine lv_lstore_n (lv' := [(3, .long x1), (0, .ref h0), (1, .int p1), (2, .int p2)]) hx hb dX0_fitsBy_14 rfl hl (by decide) rfl (fun ls hl => ?_)
  refine lv_lload_n hx hb dX0_fitsBy_15 rfl (lv_at hl 0 rfl) ?_
  refine lv_aload_n hx hb dX0_fitsBy_16 rfl (lv_at hl 1 rfl) ?_
  refine va_get (D := D) (ci := 0) (v := .ref (a0 6)) (C := RX0) (T := TX0) (N := 14) hx hb hts hinX0 hown hK hP 0 rfl rfl 6 (by decide) (hts (.fieldLink RX0 31 "KneeBench$Bench" "twinges" "[J") (List.mem_of_getElem? (i := 1) rfl)) (fun _ h9 => h9) rfl dX0_fitsBy_17 ?_
  refine lv_iload_n hx hb dX0_fitsBy_20 rfl (lv_at hl 2 rfl) ?_
  obtain ⟨g2, h⟩ := gd_elim h
  refine va_lald hx hb hK hP 7 2 rfl rfl (inb_in g2) dX0_fitsBy_21 ?_
  refine lv_aload_n hx hb dX0_fitsBy_22 rfl (lv_at hl 1 rfl) ?_
  refine lv_iload_n hx hb dX0_fitsBy_23 rfl (lv_at hl 2 rfl) ?_
  refine ca_l (w' := [WX0 cy h0 a0 s0]) (rn_V (As := [.int p1]) (rest := [.long (gb s0 6 p1.toNatClampNeg), .long x1]) ⟨hx, hb, hml, hown, hts⟩ (kX0_feltWeather l D cy h0 a0 s0 p1 _ rfl H.size) (cwV 1 hts gX0_fitsBy_X0_feltWeather rfl rfl rfl (by decide +kernel) ⟨Nat.le_of_ble_eq_true rfl, Nat.le_of_ble_eq_true rfl⟩) hK hN hP hD [0] rfl rfl (ci := 0) (q0 := 0) rfl rfl rfl rfl hl.1 rfl (Nat.le_of_ble_eq_true rfl) dX0_fitsBy_24 ⟨Nat.le_refl 0, Nat.le_refl 0⟩) hP hD hS hA [0] ⟨rfl, rfl, rfl, rfl⟩ (fun H locs hP hD hS => ?_)
  refine lv_iload_n hx hb dX0_fitsBy_27 rfl (lv_at hl 3 rfl) ?_
  refine lv_ineg hx hb dX0_fitsBy_28 ?_
  refine ca_l (w' := [WX0 cy h0 a0 s0]) (rn_SN (As := [.long (fX0_feltWeather p1 s0), .int (-p2)]) (rest := [.long (gb s0 6 p1.toNatClampNeg), .long x1]) ⟨hx, hb, hml, hown, hts⟩ (kX10_later l D cy (fX0_feltWeather p1 s0) (-p2) _ rfl H.size) ⟨va_cnB 2 hts gX0_fitsBy_X10_later_n87 rfl rfl rfl (NW.met hN 12 rfl) (hts (.initialized RX10) (List.mem_of_getElem? (i := 10) rfl)) (by decide +kernel) ⟨Nat.le_of_ble_eq_true rfl, Nat.le_of_ble_eq_true rfl⟩, hts (.static yX10_later) (List.mem_of_getElem? (i := 12) rfl), trivial⟩ hK hN hP hD [] rfl rfl rfl hl.1 rfl (Nat.le_of_ble_eq_true rfl) dX0_fitsBy_29 ⟨Nat.le_refl 0, Nat.le_refl 0⟩) hP hD hS hA [] ⟨rfl, rfl, rfl, rfl⟩ (fun H locs hP hD hS => ?_)
  refine lv_lxor hx hb dX0_fitsBy_32 ?_
  refine lv_ldc2 (v := -1) hx hb hown (hts (.constantLong RX0 116 (-1)) (List.mem_of_getElem? (i := 2) rfl)) dX0_fitsBy_33 ?_
  refine lv_lxor hx hb dX0_fitsBy_36 ?_
  refine lv_land hx hb dX0_fitsBy_37 ?_
  refine ca_i (w' := [WX0 cy h0 a0 s0]) (rn_S (As := [.long (x1 &&& (((gb s0 6 p1.toNatClampNeg) ^^^ (fX10_later (fX0_feltWeather p1 s0) (-p2))) ^^^ (-1 : Int64)))]) (rest := []) ⟨hx, hb, hml, hown, hts⟩ (kJ13_bitCount_95d88 l D cy (x1 &&& (((gb s0 6 p1.toNatClampNeg) ^^^ (fX10_later (fX0_feltWeather p1 s0) (-p2))) ^^^ (-1 : Int64))) _ rfl H.size) (va_cwS 1 hts gX0_fitsBy_J13_bitCount_95d88 rfl rfl rfl (by decide +kernel) ⟨Nat.le_of_ble_eq_true rfl, Nat.le_of_ble_eq_true rfl⟩) hK hN hP hD [] rfl rfl rfl hl.1 rfl (Nat.le_of_ble_eq_true rfl) dX0_fitsBy_38 ⟨Nat.le_refl 0, Nat.le_refl 0⟩) hP hD hS hA [] ⟨rfl, rfl, rfl, rfl⟩ (fun H locs hP hD hS => ?_)
  exact hret 41 H locs ls (fJ13_bitCount_95d88 (x1 &&& (((gb s0 6 p1.toNatClampNeg) ^^^ (fX10_later (fX0_feltWeather p1 s0) (-p2))) ^^^ (-1 : Int64)))) (Option.some.inj h) hP hD hS dX0_fitsBy_41
theorem dX0_wetOn_0 : decode cX0_wetOn 0 = .ok (.aload_n 0, 1) := by decide +kernel
theorem dX0_wetOn_1 : decode cX0_wetOn 1 = .ok (.getfield 44, 3) := by decide +kernel
theorem dX0_wetOn_4 : decode cX0_wetOn 4 = .ok (.iload_n 1, 1) := by decide +kernel
theorem dX0_wetOn_5 : decode cX0_wetOn 5 = .ok (.lushr, 1) := by decide +kernel
theorem dX0_wetOn_6 : decode cX0_wetOn 6 = .ok (.lconst 1, 1) := by decide +kernel
theorem dX0_wetOn_7 : decode cX0_wetOn 7 = .ok (.land, 1) := by decide +kernel
theorem dX0_wetOn_8 : decode cX0_wetOn 8 = .ok (.l2i, 1) := by decide +kernel
theorem dX0_wetOn_9 : decode cX0_wetOn 9 = .ok (.ireturn, 1) := by decide +kernel
abbrev rmX0_wetOn : Room := { frames := 0, cells := 0, slots := 0, locals := 0 }
set_option maxHeartbeats 4000000 in
set_option maxRecDepth 100000 in
theorem kX0_wetOn (l : Launch) (D : va_G) (cy : Nat → ClassId) (h0 : Nat) (a0 : Nat → Nat) (s0 : Rc) (p1 : Int32) (res : Int32) (h : fX0_wetOn p1 s0 = res) : CI l D cy yX0_wetOn wsX0_wetOn rmX0_wetOn [.ref h0, .int p1] (flat [WX0 cy h0 a0 s0]) (flat [WX0 cy h0 a0 s0]) res := by
  refine CI.of (cc := cX0_wetOn) (maxL := 2) (by decide) rfl (Nat.le_of_ble_eq_true rfl) ?_
  intro p e s m args below meth c A QQ ls E hr
  obtain ⟨hx, hb, hml, hown, hts, hK, hN, hP, hD, hA, hl⟩ := E
  have hret : ∀ (pc : Nat) (H : Heap) (locs : List Loc) (ls : Array Slot) (u : Int32), u = res → va_P D vwCl (flat [WX0 cy h0 a0 s0]) H → va_D A (flat [WX0 cy h0 a0 s0]) → va_S A s.heap H locs → decode cX0_wetOn pc = .ok (.ireturn, 1) → W p l e rmX0_wetOn s m args below meth c H locs 0 0 QQ (F0 m pc ls [.int u]) := by
    intro pc H locs ls u hu hP hD hS hd; subst hu; exact hr pc H locs ls _ rfl hP hD hS hd
  clear hr
  have hl : lv_has ls 2 [(0, .ref h0), (1, .int p1)] := hl
  have hinX0 : ∀ w ∈ wsX00, w ∈ wsX0_wetOn := fun _ h => List.mem_cons_of_mem _ (List.mem_append_right _ h)
  unfold fX0_wetOn at h
  suffices key : ∀ (H : Heap) (locs : List Loc), va_P D vwCl (flat [WX0 cy h0 a0 s0]) H → va_S A s.heap H locs → W p l e rmX0_wetOn s m args below meth c H locs 0 0 QQ (F0 m 0 ls []) from key _ _ hP va_S.rf
  clear hP
  intro H locs hP hS
  refine lv_aload_n hx hb dX0_wetOn_0 rfl (lv_at hl 0 rfl) ?_
  refine va_get (D := D) (ci := 0) (v := .long (gl s0 10)) (C := RX0) (T := TX0) (N := 14) hx hb hts hinX0 hown hK hP 0 rfl rfl 10 (by decide) (hts (.fieldLink RX0 44 "KneeBench$Bench" "wet" "J") (List.mem_of_getElem? (i := 1) rfl)) (fun _ h9 => h9) rfl dX0_wetOn_1 ?_
  refine lv_iload_n hx hb dX0_wetOn_4 rfl (lv_at hl 1 rfl) ?_
  refine lv_lushr hx hb dX0_wetOn_5 rfl ?_
  refine lv_lconst (v := 1) hx hb dX0_wetOn_6 (by decide) ?_
  refine lv_land hx hb dX0_wetOn_7 ?_
  refine lv_l2i hx hb dX0_wetOn_8 rfl ?_
  exact hret 9 H locs ls (((((gl s0 10).toUInt64 >>> (p1.toInt64.toUInt64 &&& Int64.toUInt64 63)).toInt64) &&& (1 : Int64)).toInt32) h hP hD hS dX0_wetOn_9
theorem gd_X0_keptUnder : wsX0_keptUnder.all goodWord = true := by decide +kernel
set_option maxRecDepth 20000 in
theorem ggX0_keptUnder_X0_tellersOf : GoodIn wsX0_keptUnder wsX0_tellersOf := goodIn_by gd_X0_keptUnder (List.forall_mem_cons.mpr ⟨List.mem_cons_of_mem _ (List.mem_append_left _ (List.mem_append_left _ (List.mem_of_getElem? (i := 5) rfl))), List.forall_mem_append.mpr ⟨List.forall_mem_cons.mpr ⟨List.mem_cons_of_mem _ (List.mem_append_left _ (List.mem_append_left _ (List.mem_of_getElem? (i := 6) rfl))), List.forall_mem_cons.mpr ⟨List.mem_cons_of_mem _ (List.mem_append_left _ (List.mem_append_left _ (List.mem_of_getElem? (i := 7) rfl))), List.forall_mem_cons.mpr ⟨List.mem_cons_of_mem _ (List.mem_append_left _ (List.mem_append_left _ (List.mem_of_getElem? (i := 8) rfl))), List.forall_mem_cons.mpr ⟨List.mem_cons_of_mem _ (List.mem_append_left _ (List.mem_append_left _ (List.mem_of_getElem? (i := 9) rfl))), List.forall_mem_cons.mpr ⟨List.mem_cons_of_mem _ (List.mem_append_left _ (List.mem_append_left _ (List.mem_of_getElem? (i := 4) rfl))), List.forall_mem_cons.mpr ⟨List.mem_cons_of_mem _ (List.mem_append_left _ (List.mem_append_left _ (List.mem_of_getElem? (i := 10) rfl))), List.forall_mem_cons.mpr ⟨List.mem_cons_of_mem _ (List.mem_append_left _ (List.mem_append_left _ (List.mem_of_getElem? (i := 11) rfl))), List.forall_mem_cons.mpr ⟨List.mem_cons_of_mem _ (List.mem_append_left _ (List.mem_append_left _ (List.mem_of_getElem? (i := 0) rfl))), List.forall_mem_cons.mpr ⟨List.mem_cons_of_mem _ (List.mem_append_left _ (List.mem_append_left _ (List.mem_of_getElem? (i := 12) rfl))), nowords_in⟩⟩⟩⟩⟩⟩⟩⟩⟩, (fun _ h => List.mem_cons_of_mem _ (List.mem_append_right _ (h)))⟩⟩)
set_option maxRecDepth 20000 in
theorem gX0_keptUnder_X0_tellersOf : GoodIn wsX0_keptUnder (wsV RX0 143 RX0 yX0_tellersOf wsX0_tellersOf) := goodIn_app (goodIn_by gd_X0_keptUnder (List.forall_mem_cons.mpr ⟨List.mem_cons_of_mem _ (List.mem_append_left _ (List.mem_append_left _ (List.mem_of_getElem? (i := 1) rfl))), List.forall_mem_cons.mpr ⟨List.mem_cons_of_mem _ (List.mem_append_left _ (List.mem_append_left _ (List.mem_of_getElem? (i := 2) rfl))), List.forall_mem_cons.mpr ⟨List.mem_cons_of_mem _ (List.mem_append_left _ (List.mem_append_left _ (List.mem_of_getElem? (i := 3) rfl))), List.forall_mem_cons.mpr ⟨List.mem_cons_of_mem _ (List.mem_append_left _ (List.mem_append_left _ (List.mem_of_getElem? (i := 4) rfl))), nowords_in⟩⟩⟩⟩)) ggX0_keptUnder_X0_tellersOf
set_option maxRecDepth 20000 in
theorem ggX0_keptUnder_X0_believersOf : GoodIn wsX0_keptUnder wsX0_believersOf := goodIn_by gd_X0_keptUnder (List.forall_mem_cons.mpr ⟨List.mem_cons_of_mem _ (List.mem_append_left _ (List.mem_append_left _ (List.mem_of_getElem? (i := 16) rfl))), List.forall_mem_append.mpr ⟨List.forall_mem_cons.mpr ⟨List.mem_cons_of_mem _ (List.mem_append_left _ (List.mem_append_left _ (List.mem_of_getElem? (i := 6) rfl))), List.forall_mem_cons.mpr ⟨List.mem_cons_of_mem _ (List.mem_append_left _ (List.mem_append_left _ (List.mem_of_getElem? (i := 17) rfl))), List.forall_mem_cons.mpr ⟨List.mem_cons_of_mem _ (List.mem_append_left _ (List.mem_append_left _ (List.mem_of_getElem? (i := 18) rfl))), List.forall_mem_cons.mpr ⟨List.mem_cons_of_mem _ (List.mem_append_left _ (List.mem_append_left _ (List.mem_of_getElem? (i := 19) rfl))), List.forall_mem_cons.mpr ⟨List.mem_cons_of_mem _ (List.mem_append_left _ (List.mem_append_left _ (List.mem_of_getElem? (i := 4) rfl))), List.forall_mem_cons.mpr ⟨List.mem_cons_of_mem _ (List.mem_append_left _ (List.mem_append_left _ (List.mem_of_getElem? (i := 20) rfl))), List.forall_mem_cons.mpr ⟨List.mem_cons_of_mem _ (List.mem_append_left _ (List.mem_append_left _ (List.mem_of_getElem? (i := 11) rfl))), List.forall_mem_cons.mpr ⟨List.mem_cons_of_mem _ (List.mem_append_left _ (List.mem_append_left _ (List.mem_of_getElem? (i := 7) rfl))), List.forall_mem_cons.mpr ⟨List.mem_cons_of_mem _ (List.mem_append_left _ (List.mem_append_left _ (List.mem_of_getElem? (i := 8) rfl))), List.forall_mem_cons.mpr ⟨List.mem_cons_of_mem _ (List.mem_append_left _ (List.mem_append_left _ (List.mem_of_getElem? (i := 9) rfl))), List.forall_mem_cons.mpr ⟨List.mem_cons_of_mem _ (List.mem_append_left _ (List.mem_append_left _ (List.mem_of_getElem? (i := 10) rfl))), List.forall_mem_cons.mpr ⟨List.mem_cons_of_mem _ (List.mem_append_left _ (List.mem_append_left _ (List.mem_of_getElem? (i := 0) rfl))), List.forall_mem_cons.mpr ⟨List.mem_cons_of_mem _ (List.mem_append_left _ (List.mem_append_left _ (List.mem_of_getElem? (i := 12) rfl))), List.forall_mem_cons.mpr ⟨List.mem_cons_of_mem _ (List.mem_append_left _ (List.mem_append_left _ (List.mem_of_getElem? (i := 21) rfl))), List.forall_mem_cons.mpr ⟨List.mem_cons_of_mem _ (List.mem_append_left _ (List.mem_append_left _ (List.mem_of_getElem? (i := 22) rfl))), List.forall_mem_cons.mpr ⟨List.mem_cons_of_mem _ (List.mem_append_left _ (List.mem_append_left _ (List.mem_of_getElem? (i := 23) rfl))), List.forall_mem_cons.mpr ⟨List.mem_cons_of_mem _ (List.mem_append_left _ (List.mem_append_right _ (List.mem_append_left _ (List.mem_of_getElem? (i := 0) rfl)))), List.forall_mem_cons.mpr ⟨List.mem_cons_of_mem _ (List.mem_append_left _ (List.mem_append_right _ (List.mem_append_left _ (List.mem_of_getElem? (i := 1) rfl)))), nowords_in⟩⟩⟩⟩⟩⟩⟩⟩⟩⟩⟩⟩⟩⟩⟩⟩⟩⟩, (fun _ h => List.mem_cons_of_mem _ (List.mem_append_right _ (h)))⟩⟩)
set_option maxRecDepth 20000 in
theorem gX0_keptUnder_X0_believersOf : GoodIn wsX0_keptUnder (wsV RX0 146 RX0 yX0_believersOf wsX0_believersOf) := goodIn_app (goodIn_by gd_X0_keptUnder (List.forall_mem_cons.mpr ⟨List.mem_cons_of_mem _ (List.mem_append_left _ (List.mem_append_left _ (List.mem_of_getElem? (i := 13) rfl))), List.forall_mem_cons.mpr ⟨List.mem_cons_of_mem _ (List.mem_append_left _ (List.mem_append_left _ (List.mem_of_getElem? (i := 14) rfl))), List.forall_mem_cons.mpr ⟨List.mem_cons_of_mem _ (List.mem_append_left _ (List.mem_append_left _ (List.mem_of_getElem? (i := 15) rfl))), List.forall_mem_cons.mpr ⟨List.mem_cons_of_mem _ (List.mem_append_left _ (List.mem_append_left _ (List.mem_of_getElem? (i := 4) rfl))), nowords_in⟩⟩⟩⟩)) ggX0_keptUnder_X0_believersOf
set_option maxRecDepth 20000 in
theorem ggX0_keptUnder_X0_verdict : GoodIn wsX0_keptUnder wsX0_verdict := goodIn_by gd_X0_keptUnder (List.forall_mem_cons.mpr ⟨List.mem_cons_of_mem _ (List.mem_append_left _ (List.mem_append_right _ (List.mem_append_left _ (List.mem_of_getElem? (i := 5) rfl)))), List.forall_mem_append.mpr ⟨List.forall_mem_cons.mpr ⟨List.mem_cons_of_mem _ (List.mem_append_left _ (List.mem_append_right _ (List.mem_append_left _ (List.mem_of_getElem? (i := 6) rfl)))), List.forall_mem_cons.mpr ⟨List.mem_cons_of_mem _ (List.mem_append_left _ (List.mem_append_right _ (List.mem_append_left _ (List.mem_of_getElem? (i := 7) rfl)))), List.forall_mem_cons.mpr ⟨List.mem_cons_of_mem _ (List.mem_append_left _ (List.mem_append_right _ (List.mem_append_left _ (List.mem_of_getElem? (i := 8) rfl)))), List.forall_mem_cons.mpr ⟨List.mem_cons_of_mem _ (List.mem_append_left _ (List.mem_append_right _ (List.mem_append_left _ (List.mem_of_getElem? (i := 9) rfl)))), List.forall_mem_cons.mpr ⟨List.mem_cons_of_mem _ (List.mem_append_left _ (List.mem_append_right _ (List.mem_append_left _ (List.mem_of_getElem? (i := 10) rfl)))), List.forall_mem_cons.mpr ⟨List.mem_cons_of_mem _ (List.mem_append_left _ (List.mem_append_right _ (List.mem_append_left _ (List.mem_of_getElem? (i := 11) rfl)))), List.forall_mem_cons.mpr ⟨List.mem_cons_of_mem _ (List.mem_append_left _ (List.mem_append_right _ (List.mem_append_left _ (List.mem_of_getElem? (i := 12) rfl)))), List.forall_mem_cons.mpr ⟨List.mem_cons_of_mem _ (List.mem_append_left _ (List.mem_append_right _ (List.mem_append_left _ (List.mem_of_getElem? (i := 13) rfl)))), List.forall_mem_cons.mpr ⟨List.mem_cons_of_mem _ (List.mem_append_left _ (List.mem_append_right _ (List.mem_append_left _ (List.mem_of_getElem? (i := 14) rfl)))), List.forall_mem_cons.mpr ⟨List.mem_cons_of_mem _ (List.mem_append_left _ (List.mem_append_right _ (List.mem_append_left _ (List.mem_of_getElem? (i := 15) rfl)))), List.forall_mem_cons.mpr ⟨List.mem_cons_of_mem _ (List.mem_append_left _ (List.mem_append_right _ (List.mem_append_left _ (List.mem_of_getElem? (i := 16) rfl)))), List.forall_mem_cons.mpr ⟨List.mem_cons_of_mem _ (List.mem_append_left _ (List.mem_append_right _ (List.mem_append_left _ (List.mem_of_getElem? (i := 17) rfl)))), List.forall_mem_cons.mpr ⟨List.mem_cons_of_mem _ (List.mem_append_left _ (List.mem_append_right _ (List.mem_append_left _ (List.mem_of_getElem? (i := 18) rfl)))), List.forall_mem_cons.mpr ⟨List.mem_cons_of_mem _ (List.mem_append_left _ (List.mem_append_left _ (List.mem_of_getElem? (i := 4) rfl))), List.forall_mem_cons.mpr ⟨List.mem_cons_of_mem _ (List.mem_append_left _ (List.mem_append_right _ (List.mem_append_left _ (List.mem_of_getElem? (i := 19) rfl)))), List.forall_mem_cons.mpr ⟨List.mem_cons_of_mem _ (List.mem_append_left _ (List.mem_append_left _ (List.mem_of_getElem? (i := 6) rfl))), List.forall_mem_cons.mpr ⟨List.mem_cons_of_mem _ (List.mem_append_left _ (List.mem_append_right _ (List.mem_append_left _ (List.mem_of_getElem? (i := 20) rfl)))), nowords_in⟩⟩⟩⟩⟩⟩⟩⟩⟩⟩⟩⟩⟩⟩⟩⟩⟩, (fun _ h => List.mem_cons_of_mem _ (List.mem_append_right _ (h)))⟩⟩)
set_option maxRecDepth 20000 in
theorem gX0_keptUnder_X0_verdict : GoodIn wsX0_keptUnder (wsV RX0 149 RX0 yX0_verdict wsX0_verdict) := goodIn_app (goodIn_by gd_X0_keptUnder (List.forall_mem_cons.mpr ⟨List.mem_cons_of_mem _ (List.mem_append_left _ (List.mem_append_right _ (List.mem_append_left _ (List.mem_of_getElem? (i := 2) rfl)))), List.forall_mem_cons.mpr ⟨List.mem_cons_of_mem _ (List.mem_append_left _ (List.mem_append_right _ (List.mem_append_left _ (List.mem_of_getElem? (i := 3) rfl)))), List.forall_mem_cons.mpr ⟨List.mem_cons_of_mem _ (List.mem_append_left _ (List.mem_append_right _ (List.mem_append_left _ (List.mem_of_getElem? (i := 4) rfl)))), List.forall_mem_cons.mpr ⟨List.mem_cons_of_mem _ (List.mem_append_left _ (List.mem_append_left _ (List.mem_of_getElem? (i := 4) rfl))), nowords_in⟩⟩⟩⟩)) ggX0_keptUnder_X0_verdict
set_option maxRecDepth 20000 in
theorem ggX0_keptUnder_X0_wetOn : GoodIn wsX0_keptUnder wsX0_wetOn := goodIn_by gd_X0_keptUnder (List.forall_mem_cons.mpr ⟨List.mem_cons_of_mem _ (List.mem_append_left _ (List.mem_append_right _ (List.mem_append_right _ (List.mem_of_getElem? (i := 0) rfl)))), List.forall_mem_append.mpr ⟨List.forall_mem_cons.mpr ⟨List.mem_cons_of_mem _ (List.mem_append_left _ (List.mem_append_right _ (List.mem_append_right _ (List.mem_of_getElem? (i := 1) rfl)))), nowords_in⟩, (fun _ h => List.mem_cons_of_mem _ (List.mem_append_right _ (h)))⟩⟩)
set_option maxRecDepth 20000 in
theorem gX0_keptUnder_X0_wetOn : GoodIn wsX0_keptUnder (wsV RX0 153 RX0 yX0_wetOn wsX0_wetOn) := goodIn_app (goodIn_by gd_X0_keptUnder (List.forall_mem_cons.mpr ⟨List.mem_cons_of_mem _ (List.mem_append_left _ (List.mem_append_right _ (List.mem_append_left _ (List.mem_of_getElem? (i := 21) rfl)))), List.forall_mem_cons.mpr ⟨List.mem_cons_of_mem _ (List.mem_append_left _ (List.mem_append_right _ (List.mem_append_left _ (List.mem_of_getElem? (i := 22) rfl)))), List.forall_mem_cons.mpr ⟨List.mem_cons_of_mem _ (List.mem_append_left _ (List.mem_append_right _ (List.mem_append_left _ (List.mem_of_getElem? (i := 23) rfl)))), List.forall_mem_cons.mpr ⟨List.mem_cons_of_mem _ (List.mem_append_left _ (List.mem_append_left _ (List.mem_of_getElem? (i := 4) rfl))), nowords_in⟩⟩⟩⟩)) ggX0_keptUnder_X0_wetOn
theorem dX0_keptUnder_0 : decode cX0_keptUnder 0 = .ok (.iconst 0, 1) := by decide +kernel
theorem dX0_keptUnder_1 : decode cX0_keptUnder 1 = .ok (.istore_n 3, 1) := by decide +kernel
theorem dX0_keptUnder_2 : decode cX0_keptUnder 2 = .ok (.iconst 0, 1) := by decide +kernel
theorem dX0_keptUnder_3 : decode cX0_keptUnder 3 = .ok (.istore 4, 2) := by decide +kernel
theorem dX0_keptUnder_5 : decode cX0_keptUnder 5 = .ok (.iload 4, 2) := by decide +kernel
theorem dX0_keptUnder_7 : decode cX0_keptUnder 7 = .ok (.aload_n 0, 1) := by decide +kernel
theorem dX0_keptUnder_8 : decode cX0_keptUnder 8 = .ok (.getfield 41, 3) := by decide +kernel
theorem dX0_keptUnder_11 : decode cX0_keptUnder 11 = .ok (.if_icmp .ge 46, 3) := by decide +kernel
theorem dX0_keptUnder_14 : decode cX0_keptUnder 14 = .ok (.aload_n 0, 1) := by decide +kernel
theorem dX0_keptUnder_15 : decode cX0_keptUnder 15 = .ok (.iload_n 1, 1) := by decide +kernel
theorem dX0_keptUnder_16 : decode cX0_keptUnder 16 = .ok (.aload_n 0, 1) := by decide +kernel
theorem dX0_keptUnder_17 : decode cX0_keptUnder 17 = .ok (.iload 4, 2) := by decide +kernel
theorem dX0_keptUnder_19 : decode cX0_keptUnder 19 = .ok (.invokevirtual 143, 3) := by decide +kernel
theorem dX0_keptUnder_22 : decode cX0_keptUnder 22 = .ok (.iload_n 2, 1) := by decide +kernel
theorem dX0_keptUnder_23 : decode cX0_keptUnder 23 = .ok (.iconst (-1), 1) := by decide +kernel
theorem dX0_keptUnder_24 : decode cX0_keptUnder 24 = .ok (.ixor, 1) := by decide +kernel
theorem dX0_keptUnder_25 : decode cX0_keptUnder 25 = .ok (.iand, 1) := by decide +kernel
theorem dX0_keptUnder_26 : decode cX0_keptUnder 26 = .ok (.aload_n 0, 1) := by decide +kernel
theorem dX0_keptUnder_27 : decode cX0_keptUnder 27 = .ok (.iload 4, 2) := by decide +kernel
theorem dX0_keptUnder_29 : decode cX0_keptUnder 29 = .ok (.invokevirtual 146, 3) := by decide +kernel
theorem dX0_keptUnder_32 : decode cX0_keptUnder 32 = .ok (.iload_n 2, 1) := by decide +kernel
theorem dX0_keptUnder_33 : decode cX0_keptUnder 33 = .ok (.iconst (-1), 1) := by decide +kernel
theorem dX0_keptUnder_34 : decode cX0_keptUnder 34 = .ok (.ixor, 1) := by decide +kernel
theorem dX0_keptUnder_35 : decode cX0_keptUnder 35 = .ok (.iand, 1) := by decide +kernel
theorem dX0_keptUnder_36 : decode cX0_keptUnder 36 = .ok (.invokevirtual 149, 3) := by decide +kernel
theorem dX0_keptUnder_39 : decode cX0_keptUnder 39 = .ok (.aload_n 0, 1) := by decide +kernel
theorem dX0_keptUnder_40 : decode cX0_keptUnder 40 = .ok (.iload 4, 2) := by decide +kernel
theorem dX0_keptUnder_42 : decode cX0_keptUnder 42 = .ok (.invokevirtual 153, 3) := by decide +kernel
theorem dX0_keptUnder_45 : decode cX0_keptUnder 45 = .ok (.if_icmp .ne 6, 3) := by decide +kernel
theorem dX0_keptUnder_48 : decode cX0_keptUnder 48 = .ok (.iinc 3 1, 3) := by decide +kernel
theorem dX0_keptUnder_51 : decode cX0_keptUnder 51 = .ok (.iinc 4 1, 3) := by decide +kernel
theorem dX0_keptUnder_54 : decode cX0_keptUnder 54 = .ok (.goto (-49), 3) := by decide +kernel
theorem dX0_keptUnder_57 : decode cX0_keptUnder 57 = .ok (.iload_n 3, 1) := by decide +kernel
theorem dX0_keptUnder_58 : decode cX0_keptUnder 58 = .ok (.ireturn, 1) := by decide +kernel
abbrev rmX0_keptUnder : Room := { frames := 3, cells := 0, slots := 0, locals := 68 }
set_option maxHeartbeats 4000000 in
set_option maxRecDepth 100000 in
theorem kX0_keptUnder (l : Launch) (D : va_G) (cy : Nat → ClassId) (h0 : Nat) (a0 : Nat → Nat) (s0 : Rc) (p1 : Int32) (p2 : Int32) (res : Int32) (h : fX0_keptUnder p1 p2 s0 = some res) : CI l D cy yX0_keptUnder wsX0_keptUnder rmX0_keptUnder [.ref h0, .int p1, .int p2] (flat [WX0 cy h0 a0 s0]) (flat [WX0 cy h0 a0 s0]) res := by
  refine CI.of (cc := cX0_keptUnder) (maxL := 5) (by decide) rfl (Nat.le_of_ble_eq_true rfl) ?_
  intro p e s m args below meth c A QQ ls E hr
  obtain ⟨hx, hb, hml, hown, hts, hK, hN, hP, hD, hA, hl⟩ := E
  have hret : ∀ (pc : Nat) (H : Heap) (locs : List Loc) (ls : Array Slot) (u : Int32), u = res → va_P D vwCl (flat [WX0 cy h0 a0 s0]) H → va_D A (flat [WX0 cy h0 a0 s0]) → va_S A s.heap H locs → decode cX0_keptUnder pc = .ok (.ireturn, 1) → W p l e rmX0_keptUnder s m args below meth c H locs 0 0 QQ (F0 m pc ls [.int u]) := by
    intro pc H locs ls u hu hP hD hS hd; subst hu; exact hr pc H locs ls _ rfl hP hD hS hd
  clear hr
  have hl : lv_has ls 5 [(0, .ref h0), (1, .int p1), (2, .int p2)] := hl
  have hinX0 : ∀ w ∈ wsX00, w ∈ wsX0_keptUnder := fun _ h => List.mem_cons_of_mem _ (List.mem_append_right _ h)
  unfold fX0_keptUnder at h
  suffices key : ∀ (H : Heap) (locs : List Loc), va_P D vwCl (flat [WX0 cy h0 a0 s0]) H → va_S A s.heap H locs → W p l e rmX0_keptUnder s m args below meth c H locs 0 0 QQ (F0 m 0 ls []) from key _ _ hP va_S.rf
  clear hP
  intro H locs hP hS
  refine lv_iconst (v := 0) hx hb dX0_keptUnder_0 (by decide) ?_
  refine lv_istore_n (lv' := [(3, .int (0 : Int32)), (0, .ref h0), (1, .int p1), (2, .int p2)]) hx hb dX0_keptUnder_1 rfl hl (by decide) rfl (fun ls hl => ?_)
  refine lv_iconst (v := 0) hx hb dX0_keptUnder_2 (by decide) ?_
  refine lv_istore (lv' := [(4, .int (0 : Int32)), (3, .int (0 : Int32)), (0, .ref h0), (1, .int p1), (2, .int p2)]) hx hb dX0_keptUnder_3 hl (by decide) rfl (fun ls hl => ?_)
  have L5 : ∀ (n : Nat) (q5 : Int32 × Int32) (o : Int32), loopO (fX0_keptUnder_L5 p1 p2 s0) n q5 = some o → ∀ (H : Heap) (locs : List Loc) (ls : Array Slot), lv_has ls 5 [(0, .ref h0), (1, .int p1), (2, .int p2), (3, .int q5.1), (4, .int q5.2)] → va_P D vwCl (flat [WX0 cy h0 a0 s0]) H → va_D A (flat [WX0 cy h0 a0 s0]) → va_S A s.heap H locs → ∀ (kk57 : ∀ (H : Heap) (locs : List Loc) (ls : Array Slot), lv_has ls 5 [(3, .int o)] → va_P D vwCl (flat [WX0 cy h0 a0 s0]) H → va_D A (flat [WX0 cy h0 a0 s0]) → va_S A s.heap H locs → W p l e rmX0_keptUnder s m args below meth c H locs 0 0 QQ (F0 m 57 ls [])), W p l e rmX0_keptUnder s m args below meth c H locs 0 0 QQ (F0 m 5 ls []) := by
    intro n
    induction n with
    | zero => intro q5 o h; exact absurd h (by rw [loopO_zero]; intro z; cases z)
    | succ n ih =>
      intro q5 o h H locs ls hl hP hD hS kk57
      obtain ⟨w, h, hgo, hst⟩ := loopO_elim h
      unfold fX0_keptUnder_L5 at h
      refine lv_iload hx hb dX0_keptUnder_5 (lv_at hl 4 rfl) ?_
      refine lv_aload_n hx hb dX0_keptUnder_7 rfl (lv_at hl 0 rfl) ?_
      refine va_get (D := D) (ci := 0) (v := .int (gi s0 9)) (C := RX0) (T := TX0) (N := 14) hx hb hts hinX0 hown hK hP 0 rfl rfl 9 (by decide) (hts (.fieldLink RX0 41 "KneeBench$Bench" "days" "I") (List.mem_of_getElem? (i := 1) rfl)) (fun _ h9 => h9) rfl dX0_keptUnder_8 ?_
      refine lv_icmp_ge (tgt := 57) hx hb dX0_keptUnder_11 (by decide) (fun c1 => ?_) (fun c1 => ?_)
      · replace h := (if_pos c1).symm.trans h
        have eo := hst _ (Option.some.inj h).symm
        subst eo
        exact kk57 H locs ls (lv_sub hl [3] rfl) hP hD hS
      · replace h := (if_neg c1).symm.trans h
        refine lv_aload_n hx hb dX0_keptUnder_14 rfl (lv_at hl 0 rfl) ?_
        refine lv_iload_n hx hb dX0_keptUnder_15 rfl (lv_at hl 1 rfl) ?_
        refine lv_aload_n hx hb dX0_keptUnder_16 rfl (lv_at hl 0 rfl) ?_
        refine lv_iload hx hb dX0_keptUnder_17 (lv_at hl 4 rfl) ?_
        obtain ⟨r2, hr2, h⟩ := bd_elim h
        refine ca_i (w' := [WX0 cy h0 a0 s0]) (rn_V (As := [.int q5.2]) (rest := [.int p1, .ref h0]) ⟨hx, hb, hml, hown, hts⟩ (kX0_tellersOf l D cy h0 a0 s0 q5.2 r2 hr2 H.size) (cwV 1 hts gX0_keptUnder_X0_tellersOf rfl rfl rfl (by decide +kernel) ⟨Nat.le_of_ble_eq_true rfl, Nat.le_of_ble_eq_true rfl⟩) hK hN hP hD [0] rfl rfl (ci := 0) (q0 := 0) rfl rfl rfl rfl hl.1 rfl (Nat.le_of_ble_eq_true rfl) dX0_keptUnder_19 ⟨Nat.le_refl 0, Nat.le_refl 0⟩) hP hD hS hA [0] ⟨rfl, rfl, rfl, rfl⟩ (fun H locs hP hD hS => ?_)
        refine lv_iload_n hx hb dX0_keptUnder_22 rfl (lv_at hl 2 rfl) ?_
        refine lv_iconst (v := -1) hx hb dX0_keptUnder_23 (by decide) ?_
        refine lv_ixor hx hb dX0_keptUnder_24 ?_
        refine lv_iand hx hb dX0_keptUnder_25 ?_
        refine lv_aload_n hx hb dX0_keptUnder_26 rfl (lv_at hl 0 rfl) ?_
        refine lv_iload hx hb dX0_keptUnder_27 (lv_at hl 4 rfl) ?_
        obtain ⟨r3, hr3, h⟩ := bd_elim h
        refine ca_i (w' := [WX0 cy h0 a0 s0]) (rn_V (As := [.int q5.2]) (rest := [.int (r2 &&& (p2 ^^^ (-1 : Int32))), .int p1, .ref h0]) ⟨hx, hb, hml, hown, hts⟩ (kX0_believersOf l D cy h0 a0 s0 q5.2 r3 hr3 H.size) (cwV 1 hts gX0_keptUnder_X0_believersOf rfl rfl rfl (by decide +kernel) ⟨Nat.le_of_ble_eq_true rfl, Nat.le_of_ble_eq_true rfl⟩) hK hN hP hD [0] rfl rfl (ci := 0) (q0 := 0) rfl rfl rfl rfl hl.1 rfl (Nat.le_of_ble_eq_true rfl) dX0_keptUnder_29 ⟨Nat.le_refl 0, Nat.le_refl 0⟩) hP hD hS hA [0] ⟨rfl, rfl, rfl, rfl⟩ (fun H locs hP hD hS => ?_)
        refine lv_iload_n hx hb dX0_keptUnder_32 rfl (lv_at hl 2 rfl) ?_
        refine lv_iconst (v := -1) hx hb dX0_keptUnder_33 (by decide) ?_
        refine lv_ixor hx hb dX0_keptUnder_34 ?_
        refine lv_iand hx hb dX0_keptUnder_35 ?_
        obtain ⟨r4, hr4, h⟩ := bd_elim h
        refine ca_i (w' := [WX0 cy h0 a0 s0]) (rn_V (As := [.int p1, .int (r2 &&& (p2 ^^^ (-1 : Int32))), .int (r3 &&& (p2 ^^^ (-1 : Int32)))]) (rest := []) ⟨hx, hb, hml, hown, hts⟩ (kX0_verdict l D cy h0 a0 s0 p1 (r2 &&& (p2 ^^^ (-1 : Int32))) (r3 &&& (p2 ^^^ (-1 : Int32))) r4 hr4 H.size) (cwV 3 hts gX0_keptUnder_X0_verdict rfl rfl rfl (by decide +kernel) ⟨Nat.le_of_ble_eq_true rfl, Nat.le_of_ble_eq_true rfl⟩) hK hN hP hD [0] rfl rfl (ci := 0) (q0 := 0) rfl rfl rfl rfl hl.1 rfl (Nat.le_of_ble_eq_true rfl) dX0_keptUnder_36 ⟨Nat.le_refl 0, Nat.le_refl 0⟩) hP hD hS hA [0] ⟨rfl, rfl, rfl, rfl⟩ (fun H locs hP hD hS => ?_)
        refine lv_aload_n hx hb dX0_keptUnder_39 rfl (lv_at hl 0 rfl) ?_
        refine lv_iload hx hb dX0_keptUnder_40 (lv_at hl 4 rfl) ?_
        refine ca_i (w' := [WX0 cy h0 a0 s0]) (rn_V (As := [.int q5.2]) (rest := [.int r4]) ⟨hx, hb, hml, hown, hts⟩ (kX0_wetOn l D cy h0 a0 s0 q5.2 _ rfl H.size) (cwV 1 hts gX0_keptUnder_X0_wetOn rfl rfl rfl (by decide +kernel) ⟨Nat.le_of_ble_eq_true rfl, Nat.le_of_ble_eq_true rfl⟩) hK hN hP hD [0] rfl rfl (ci := 0) (q0 := 0) rfl rfl rfl rfl hl.1 rfl (Nat.le_of_ble_eq_true rfl) dX0_keptUnder_42 ⟨Nat.le_refl 0, Nat.le_refl 0⟩) hP hD hS hA [0] ⟨rfl, rfl, rfl, rfl⟩ (fun H locs hP hD hS => ?_)
        refine lv_icmp_ne (tgt := 51) hx hb dX0_keptUnder_45 (by decide) (fun c5 => ?_) (fun c5 => ?_)
        · replace h := (if_neg c5).symm.trans h
          refine lv_iinc (v := (q5.2 + (1 : Int32))) (lv' := [(4, .int (q5.2 + (1 : Int32))), (0, .ref h0), (1, .int p1), (2, .int p2), (3, .int q5.1)]) hx hb dX0_keptUnder_51 hl (k := 4) rfl rfl (by decide) rfl (fun ls hl => ?_)
          refine lv_goto (tgt := 5) hx hb dX0_keptUnder_54 (by decide) ?_
          exact ih _ o (hgo _ (Option.some.inj h).symm) H locs ls (lv_sub hl [1, 2, 3, 4, 0] rfl) hP hD hS kk57
        · replace h := (if_pos c5).symm.trans h
          refine lv_iinc (v := (q5.1 + (1 : Int32))) (lv' := [(3, .int (q5.1 + (1 : Int32))), (0, .ref h0), (1, .int p1), (2, .int p2), (4, .int q5.2)]) hx hb dX0_keptUnder_48 hl (k := 3) rfl rfl (by decide) rfl (fun ls hl => ?_)
          refine lv_iinc (v := (q5.2 + (1 : Int32))) (lv' := [(4, .int (q5.2 + (1 : Int32))), (3, .int (q5.1 + (1 : Int32))), (0, .ref h0), (1, .int p1), (2, .int p2)]) hx hb dX0_keptUnder_51 hl (k := 4) rfl rfl (by decide) rfl (fun ls hl => ?_)
          refine lv_goto (tgt := 5) hx hb dX0_keptUnder_54 (by decide) ?_
          exact ih _ o (hgo _ (Option.some.inj h).symm) H locs ls (lv_sub hl [2, 3, 4, 1, 0] rfl) hP hD hS kk57
  obtain ⟨o5, ho5, h⟩ := bd_elim h
  obtain ⟨n5, hn5⟩ := loopF_some ho5
  refine L5 n5 _ o5 hn5 H locs ls (lv_sub hl [2, 3, 4, 1, 0] rfl) hP hD hS (fun H locs ls hl hP hD hS => ?_)
  refine lv_iload_n hx hb dX0_keptUnder_57 rfl (lv_at hl 0 rfl) ?_
  exact hret 58 H locs ls o5 (Option.some.inj h) hP hD hS dX0_keptUnder_58
theorem gd_X0_leaning : wsX0_leaning.all goodWord = true := by decide +kernel
set_option maxRecDepth 20000 in
theorem ggX0_leaning_X0_believersOf : GoodIn wsX0_leaning wsX0_believersOf := goodIn_by gd_X0_leaning (List.forall_mem_cons.mpr ⟨List.mem_cons_of_mem _ (List.mem_append_left _ (List.mem_append_left _ (List.mem_of_getElem? (i := 4) rfl))), List.forall_mem_append.mpr ⟨List.forall_mem_cons.mpr ⟨List.mem_cons_of_mem _ (List.mem_append_left _ (List.mem_append_left _ (List.mem_of_getElem? (i := 5) rfl))), List.forall_mem_cons.mpr ⟨List.mem_cons_of_mem _ (List.mem_append_left _ (List.mem_append_left _ (List.mem_of_getElem? (i := 6) rfl))), List.forall_mem_cons.mpr ⟨List.mem_cons_of_mem _ (List.mem_append_left _ (List.mem_append_left _ (List.mem_of_getElem? (i := 7) rfl))), List.forall_mem_cons.mpr ⟨List.mem_cons_of_mem _ (List.mem_append_left _ (List.mem_append_left _ (List.mem_of_getElem? (i := 8) rfl))), List.forall_mem_cons.mpr ⟨List.mem_cons_of_mem _ (List.mem_append_left _ (List.mem_append_left _ (List.mem_of_getElem? (i := 3) rfl))), List.forall_mem_cons.mpr ⟨List.mem_cons_of_mem _ (List.mem_append_left _ (List.mem_append_left _ (List.mem_of_getElem? (i := 9) rfl))), List.forall_mem_cons.mpr ⟨List.mem_cons_of_mem _ (List.mem_append_left _ (List.mem_append_left _ (List.mem_of_getElem? (i := 10) rfl))), List.forall_mem_cons.mpr ⟨List.mem_cons_of_mem _ (List.mem_append_left _ (List.mem_append_left _ (List.mem_of_getElem? (i := 11) rfl))), List.forall_mem_cons.mpr ⟨List.mem_cons_of_mem _ (List.mem_append_left _ (List.mem_append_left _ (List.mem_of_getElem? (i := 12) rfl))), List.forall_mem_cons.mpr ⟨List.mem_cons_of_mem _ (List.mem_append_left _ (List.mem_append_left _ (List.mem_of_getElem? (i := 13) rfl))), List.forall_mem_cons.mpr ⟨List.mem_cons_of_mem _ (List.mem_append_left _ (List.mem_append_left _ (List.mem_of_getElem? (i := 14) rfl))), List.forall_mem_cons.mpr ⟨List.mem_cons_of_mem _ (List.mem_append_left _ (List.mem_append_left _ (List.mem_of_getElem? (i := 15) rfl))), List.forall_mem_cons.mpr ⟨List.mem_cons_of_mem _ (List.mem_append_left _ (List.mem_append_left _ (List.mem_of_getElem? (i := 16) rfl))), List.forall_mem_cons.mpr ⟨List.mem_cons_of_mem _ (List.mem_append_left _ (List.mem_append_left _ (List.mem_of_getElem? (i := 17) rfl))), List.forall_mem_cons.mpr ⟨List.mem_cons_of_mem _ (List.mem_append_left _ (List.mem_append_left _ (List.mem_of_getElem? (i := 18) rfl))), List.forall_mem_cons.mpr ⟨List.mem_cons_of_mem _ (List.mem_append_left _ (List.mem_append_left _ (List.mem_of_getElem? (i := 19) rfl))), List.forall_mem_cons.mpr ⟨List.mem_cons_of_mem _ (List.mem_append_left _ (List.mem_append_left _ (List.mem_of_getElem? (i := 20) rfl))), List.forall_mem_cons.mpr ⟨List.mem_cons_of_mem _ (List.mem_append_left _ (List.mem_append_left _ (List.mem_of_getElem? (i := 21) rfl))), nowords_in⟩⟩⟩⟩⟩⟩⟩⟩⟩⟩⟩⟩⟩⟩⟩⟩⟩⟩, (fun _ h => List.mem_cons_of_mem _ (List.mem_append_right _ (h)))⟩⟩)
set_option maxRecDepth 20000 in
theorem gX0_leaning_X0_believersOf : GoodIn wsX0_leaning (wsV RX0 146 RX0 yX0_believersOf wsX0_believersOf) := goodIn_app (goodIn_by gd_X0_leaning (List.forall_mem_cons.mpr ⟨List.mem_cons_of_mem _ (List.mem_append_left _ (List.mem_append_left _ (List.mem_of_getElem? (i := 0) rfl))), List.forall_mem_cons.mpr ⟨List.mem_cons_of_mem _ (List.mem_append_left _ (List.mem_append_left _ (List.mem_of_getElem? (i := 1) rfl))), List.forall_mem_cons.mpr ⟨List.mem_cons_of_mem _ (List.mem_append_left _ (List.mem_append_left _ (List.mem_of_getElem? (i := 2) rfl))), List.forall_mem_cons.mpr ⟨List.mem_cons_of_mem _ (List.mem_append_left _ (List.mem_append_left _ (List.mem_of_getElem? (i := 3) rfl))), nowords_in⟩⟩⟩⟩)) ggX0_leaning_X0_believersOf
set_option maxRecDepth 20000 in
theorem ggX0_leaning_X0_weightOf : GoodIn wsX0_leaning wsX0_weightOf := goodIn_by gd_X0_leaning (List.forall_mem_cons.mpr ⟨List.mem_cons_of_mem _ (List.mem_append_left _ (List.mem_append_right _ (List.mem_of_getElem? (i := 1) rfl))), List.forall_mem_append.mpr ⟨List.forall_mem_cons.mpr ⟨List.mem_cons_of_mem _ (List.mem_append_left _ (List.mem_append_left _ (List.mem_of_getElem? (i := 5) rfl))), List.forall_mem_cons.mpr ⟨List.mem_cons_of_mem _ (List.mem_append_left _ (List.mem_append_right _ (List.mem_of_getElem? (i := 2) rfl))), nowords_in⟩⟩, (fun _ h => List.mem_cons_of_mem _ (List.mem_append_right _ (h)))⟩⟩)
set_option maxRecDepth 20000 in
theorem gX0_leaning_X0_weightOf : GoodIn wsX0_leaning (wsV RX0 140 RX0 yX0_weightOf wsX0_weightOf) := goodIn_app (goodIn_by gd_X0_leaning (List.forall_mem_cons.mpr ⟨List.mem_cons_of_mem _ (List.mem_append_left _ (List.mem_append_left _ (List.mem_of_getElem? (i := 22) rfl))), List.forall_mem_cons.mpr ⟨List.mem_cons_of_mem _ (List.mem_append_left _ (List.mem_append_left _ (List.mem_of_getElem? (i := 23) rfl))), List.forall_mem_cons.mpr ⟨List.mem_cons_of_mem _ (List.mem_append_left _ (List.mem_append_right _ (List.mem_of_getElem? (i := 0) rfl))), List.forall_mem_cons.mpr ⟨List.mem_cons_of_mem _ (List.mem_append_left _ (List.mem_append_left _ (List.mem_of_getElem? (i := 3) rfl))), nowords_in⟩⟩⟩⟩)) ggX0_leaning_X0_weightOf
set_option maxRecDepth 20000 in
theorem ggX0_leaning_X0_tellersOf : GoodIn wsX0_leaning wsX0_tellersOf := goodIn_by gd_X0_leaning (List.forall_mem_cons.mpr ⟨List.mem_cons_of_mem _ (List.mem_append_left _ (List.mem_append_right _ (List.mem_of_getElem? (i := 6) rfl))), List.forall_mem_append.mpr ⟨List.forall_mem_cons.mpr ⟨List.mem_cons_of_mem _ (List.mem_append_left _ (List.mem_append_left _ (List.mem_of_getElem? (i := 5) rfl))), List.forall_mem_cons.mpr ⟨List.mem_cons_of_mem _ (List.mem_append_left _ (List.mem_append_left _ (List.mem_of_getElem? (i := 11) rfl))), List.forall_mem_cons.mpr ⟨List.mem_cons_of_mem _ (List.mem_append_left _ (List.mem_append_left _ (List.mem_of_getElem? (i := 12) rfl))), List.forall_mem_cons.mpr ⟨List.mem_cons_of_mem _ (List.mem_append_left _ (List.mem_append_left _ (List.mem_of_getElem? (i := 13) rfl))), List.forall_mem_cons.mpr ⟨List.mem_cons_of_mem _ (List.mem_append_left _ (List.mem_append_left _ (List.mem_of_getElem? (i := 3) rfl))), List.forall_mem_cons.mpr ⟨List.mem_cons_of_mem _ (List.mem_append_left _ (List.mem_append_left _ (List.mem_of_getElem? (i := 14) rfl))), List.forall_mem_cons.mpr ⟨List.mem_cons_of_mem _ (List.mem_append_left _ (List.mem_append_left _ (List.mem_of_getElem? (i := 10) rfl))), List.forall_mem_cons.mpr ⟨List.mem_cons_of_mem _ (List.mem_append_left _ (List.mem_append_left _ (List.mem_of_getElem? (i := 15) rfl))), List.forall_mem_cons.mpr ⟨List.mem_cons_of_mem _ (List.mem_append_left _ (List.mem_append_left _ (List.mem_of_getElem? (i := 16) rfl))), nowords_in⟩⟩⟩⟩⟩⟩⟩⟩⟩, (fun _ h => List.mem_cons_of_mem _ (List.mem_append_right _ (h)))⟩⟩)
set_option maxRecDepth 20000 in
theorem gX0_leaning_X0_tellersOf : GoodIn wsX0_leaning (wsV RX0 143 RX0 yX0_tellersOf wsX0_tellersOf) := goodIn_app (goodIn_by gd_X0_leaning (List.forall_mem_cons.mpr ⟨List.mem_cons_of_mem _ (List.mem_append_left _ (List.mem_append_right _ (List.mem_of_getElem? (i := 3) rfl))), List.forall_mem_cons.mpr ⟨List.mem_cons_of_mem _ (List.mem_append_left _ (List.mem_append_right _ (List.mem_of_getElem? (i := 4) rfl))), List.forall_mem_cons.mpr ⟨List.mem_cons_of_mem _ (List.mem_append_left _ (List.mem_append_right _ (List.mem_of_getElem? (i := 5) rfl))), List.forall_mem_cons.mpr ⟨List.mem_cons_of_mem _ (List.mem_append_left _ (List.mem_append_left _ (List.mem_of_getElem? (i := 3) rfl))), nowords_in⟩⟩⟩⟩)) ggX0_leaning_X0_tellersOf
theorem dX0_leaning_0 : decode cX0_leaning 0 = .ok (.aload_n 0, 1) := by decide +kernel
theorem dX0_leaning_1 : decode cX0_leaning 1 = .ok (.iload_n 1, 1) := by decide +kernel
theorem dX0_leaning_2 : decode cX0_leaning 2 = .ok (.invokevirtual 146, 3) := by decide +kernel
theorem dX0_leaning_5 : decode cX0_leaning 5 = .ok (.istore_n 2, 1) := by decide +kernel
theorem dX0_leaning_6 : decode cX0_leaning 6 = .ok (.aload_n 0, 1) := by decide +kernel
theorem dX0_leaning_7 : decode cX0_leaning 7 = .ok (.iload_n 2, 1) := by decide +kernel
theorem dX0_leaning_8 : decode cX0_leaning 8 = .ok (.invokevirtual 140, 3) := by decide +kernel
theorem dX0_leaning_11 : decode cX0_leaning 11 = .ok (.aload_n 0, 1) := by decide +kernel
theorem dX0_leaning_12 : decode cX0_leaning 12 = .ok (.aload_n 0, 1) := by decide +kernel
theorem dX0_leaning_13 : decode cX0_leaning 13 = .ok (.iload_n 1, 1) := by decide +kernel
theorem dX0_leaning_14 : decode cX0_leaning 14 = .ok (.invokevirtual 143, 3) := by decide +kernel
theorem dX0_leaning_17 : decode cX0_leaning 17 = .ok (.iload_n 2, 1) := by decide +kernel
theorem dX0_leaning_18 : decode cX0_leaning 18 = .ok (.iconst (-1), 1) := by decide +kernel
theorem dX0_leaning_19 : decode cX0_leaning 19 = .ok (.ixor, 1) := by decide +kernel
theorem dX0_leaning_20 : decode cX0_leaning 20 = .ok (.iand, 1) := by decide +kernel
theorem dX0_leaning_21 : decode cX0_leaning 21 = .ok (.invokevirtual 140, 3) := by decide +kernel
theorem dX0_leaning_24 : decode cX0_leaning 24 = .ok (.isub, 1) := by decide +kernel
theorem dX0_leaning_25 : decode cX0_leaning 25 = .ok (.ireturn, 1) := by decide +kernel
abbrev rmX0_leaning : Room := { frames := 3, cells := 0, slots := 0, locals := 68 }
set_option maxHeartbeats 4000000 in
set_option maxRecDepth 100000 in
theorem kX0_leaning (l : Launch) (D : va_G) (cy : Nat → ClassId) (h0 : Nat) (a0 : Nat → Nat) (s0 : Rc) (p1 : Int32) (res : Int32) (h : fX0_leaning p1 s0 = some res) : CI l D cy yX0_leaning wsX0_leaning rmX0_leaning [.ref h0, .int p1] (flat [WX0 cy h0 a0 s0]) (flat [WX0 cy h0 a0 s0]) res := by
  refine CI.of (cc := cX0_leaning) (maxL := 3) (by decide) rfl (Nat.le_of_ble_eq_true rfl) ?_
  intro p e s m args below meth c A QQ ls E hr
  obtain ⟨hx, hb, hml, hown, hts, hK, hN, hP, hD, hA, hl⟩ := E
  have hret : ∀ (pc : Nat) (H : Heap) (locs : List Loc) (ls : Array Slot) (u : Int32), u = res → va_P D vwCl (flat [WX0 cy h0 a0 s0]) H → va_D A (flat [WX0 cy h0 a0 s0]) → va_S A s.heap H locs → decode cX0_leaning pc = .ok (.ireturn, 1) → W p l e rmX0_leaning s m args below meth c H locs 0 0 QQ (F0 m pc ls [.int u]) := by
    intro pc H locs ls u hu hP hD hS hd; subst hu; exact hr pc H locs ls _ rfl hP hD hS hd
  clear hr
  have hl : lv_has ls 3 [(0, .ref h0), (1, .int p1)] := hl
  unfold fX0_leaning at h
  suffices key : ∀ (H : Heap) (locs : List Loc), va_P D vwCl (flat [WX0 cy h0 a0 s0]) H → va_S A s.heap H locs → W p l e rmX0_leaning s m args below meth c H locs 0 0 QQ (F0 m 0 ls []) from key _ _ hP va_S.rf
  clear hP
  intro H locs hP hS
  refine lv_aload_n hx hb dX0_leaning_0 rfl (lv_at hl 0 rfl) ?_
  refine lv_iload_n hx hb dX0_leaning_1 rfl (lv_at hl 1 rfl) ?_
  obtain ⟨r1, hr1, h⟩ := bd_elim h
  refine ca_i (w' := [WX0 cy h0 a0 s0]) (rn_V (As := [.int p1]) (rest := []) ⟨hx, hb, hml, hown, hts⟩ (kX0_believersOf l D cy h0 a0 s0 p1 r1 hr1 H.size) (cwV 1 hts gX0_leaning_X0_believersOf rfl rfl rfl (by decide +kernel) ⟨Nat.le_of_ble_eq_true rfl, Nat.le_of_ble_eq_true rfl⟩) hK hN hP hD [0] rfl rfl (ci := 0) (q0 := 0) rfl rfl rfl rfl hl.1 rfl (Nat.le_of_ble_eq_true rfl) dX0_leaning_2 ⟨Nat.le_refl 0, Nat.le_refl 0⟩) hP hD hS hA [0] ⟨rfl, rfl, rfl, rfl⟩ (fun H locs hP hD hS => ?_)
  refine lv_istore_n (lv' := [(2, .int r1), (0, .ref h0), (1, .int p1)]) hx hb dX0_leaning_5 rfl hl (by decide) rfl (fun ls hl => ?_)
  refine lv_aload_n hx hb dX0_leaning_6 rfl (lv_at hl 1 rfl) ?_
  refine lv_iload_n hx hb dX0_leaning_7 rfl (lv_at hl 0 rfl) ?_
  obtain ⟨r2, hr2, h⟩ := bd_elim h
  refine ca_i (w' := [WX0 cy h0 a0 s0]) (rn_V (As := [.int r1]) (rest := []) ⟨hx, hb, hml, hown, hts⟩ (kX0_weightOf l D cy h0 a0 s0 r1 r2 hr2 H.size) (cwV 1 hts gX0_leaning_X0_weightOf rfl rfl rfl (by decide +kernel) ⟨Nat.le_of_ble_eq_true rfl, Nat.le_of_ble_eq_true rfl⟩) hK hN hP hD [0] rfl rfl (ci := 0) (q0 := 0) rfl rfl rfl rfl hl.1 rfl (Nat.le_of_ble_eq_true rfl) dX0_leaning_8 ⟨Nat.le_refl 0, Nat.le_refl 0⟩) hP hD hS hA [0] ⟨rfl, rfl, rfl, rfl⟩ (fun H locs hP hD hS => ?_)
  refine lv_aload_n hx hb dX0_leaning_11 rfl (lv_at hl 1 rfl) ?_
  refine lv_aload_n hx hb dX0_leaning_12 rfl (lv_at hl 1 rfl) ?_
  refine lv_iload_n hx hb dX0_leaning_13 rfl (lv_at hl 2 rfl) ?_
  obtain ⟨r3, hr3, h⟩ := bd_elim h
  refine ca_i (w' := [WX0 cy h0 a0 s0]) (rn_V (As := [.int p1]) (rest := [.ref h0, .int r2]) ⟨hx, hb, hml, hown, hts⟩ (kX0_tellersOf l D cy h0 a0 s0 p1 r3 hr3 H.size) (cwV 1 hts gX0_leaning_X0_tellersOf rfl rfl rfl (by decide +kernel) ⟨Nat.le_of_ble_eq_true rfl, Nat.le_of_ble_eq_true rfl⟩) hK hN hP hD [0] rfl rfl (ci := 0) (q0 := 0) rfl rfl rfl rfl hl.1 rfl (Nat.le_of_ble_eq_true rfl) dX0_leaning_14 ⟨Nat.le_refl 0, Nat.le_refl 0⟩) hP hD hS hA [0] ⟨rfl, rfl, rfl, rfl⟩ (fun H locs hP hD hS => ?_)
  refine lv_iload_n hx hb dX0_leaning_17 rfl (lv_at hl 0 rfl) ?_
  refine lv_iconst (v := -1) hx hb dX0_leaning_18 (by decide) ?_
  refine lv_ixor hx hb dX0_leaning_19 ?_
  refine lv_iand hx hb dX0_leaning_20 ?_
  obtain ⟨r4, hr4, h⟩ := bd_elim h
  refine ca_i (w' := [WX0 cy h0 a0 s0]) (rn_V (As := [.int (r3 &&& (r1 ^^^ (-1 : Int32)))]) (rest := [.int r2]) ⟨hx, hb, hml, hown, hts⟩ (kX0_weightOf l D cy h0 a0 s0 (r3 &&& (r1 ^^^ (-1 : Int32))) r4 hr4 H.size) (cwV 1 hts gX0_leaning_X0_weightOf rfl rfl rfl (by decide +kernel) ⟨Nat.le_of_ble_eq_true rfl, Nat.le_of_ble_eq_true rfl⟩) hK hN hP hD [0] rfl rfl (ci := 0) (q0 := 0) rfl rfl rfl rfl hl.1 rfl (Nat.le_of_ble_eq_true rfl) dX0_leaning_21 ⟨Nat.le_refl 0, Nat.le_refl 0⟩) hP hD hS hA [0] ⟨rfl, rfl, rfl, rfl⟩ (fun H locs hP hD hS => ?_)
  refine lv_isub hx hb dX0_leaning_24 ?_
  exact hret 25 H locs ls (r2 - r4) (Option.some.inj h) hP hD hS dX0_leaning_25
theorem gd_X0_learnOf : wsX0_learnOf.all goodWord = true := by decide +kernel
set_option maxRecDepth 20000 in
theorem ggX0_learnOf_X0_feltWeather : GoodIn wsX0_learnOf wsX0_feltWeather := goodIn_by gd_X0_learnOf (List.forall_mem_cons.mpr ⟨List.mem_cons_of_mem _ (List.mem_append_left _ (List.mem_append_left _ (List.mem_of_getElem? (i := 10) rfl))), List.forall_mem_append.mpr ⟨List.forall_mem_cons.mpr ⟨List.mem_cons_of_mem _ (List.mem_append_left _ (List.mem_append_left _ (List.mem_of_getElem? (i := 11) rfl))), List.forall_mem_cons.mpr ⟨List.mem_cons_of_mem _ (List.mem_append_left _ (List.mem_append_left _ (List.mem_of_getElem? (i := 12) rfl))), List.forall_mem_cons.mpr ⟨List.mem_cons_of_mem _ (List.mem_append_left _ (List.mem_append_left _ (List.mem_of_getElem? (i := 13) rfl))), List.forall_mem_cons.mpr ⟨List.mem_cons_of_mem _ (List.mem_append_left _ (List.mem_append_left _ (List.mem_of_getElem? (i := 14) rfl))), List.forall_mem_cons.mpr ⟨List.mem_cons_of_mem _ (List.mem_append_left _ (List.mem_append_left _ (List.mem_of_getElem? (i := 15) rfl))), List.forall_mem_cons.mpr ⟨List.mem_cons_of_mem _ (List.mem_append_left _ (List.mem_append_left _ (List.mem_of_getElem? (i := 9) rfl))), List.forall_mem_cons.mpr ⟨List.mem_cons_of_mem _ (List.mem_append_left _ (List.mem_append_left _ (List.mem_of_getElem? (i := 16) rfl))), List.forall_mem_cons.mpr ⟨List.mem_cons_of_mem _ (List.mem_append_left _ (List.mem_append_left _ (List.mem_of_getElem? (i := 17) rfl))), nowords_in⟩⟩⟩⟩⟩⟩⟩⟩, (fun _ h => List.mem_cons_of_mem _ (List.mem_append_right _ (h)))⟩⟩)
set_option maxRecDepth 20000 in
theorem gX0_learnOf_X0_feltWeather : GoodIn wsX0_learnOf (wsV RX0 84 RX0 yX0_feltWeather wsX0_feltWeather) := goodIn_app (goodIn_by gd_X0_learnOf (List.forall_mem_cons.mpr ⟨List.mem_cons_of_mem _ (List.mem_append_left _ (List.mem_append_left _ (List.mem_of_getElem? (i := 6) rfl))), List.forall_mem_cons.mpr ⟨List.mem_cons_of_mem _ (List.mem_append_left _ (List.mem_append_left _ (List.mem_of_getElem? (i := 7) rfl))), List.forall_mem_cons.mpr ⟨List.mem_cons_of_mem _ (List.mem_append_left _ (List.mem_append_left _ (List.mem_of_getElem? (i := 8) rfl))), List.forall_mem_cons.mpr ⟨List.mem_cons_of_mem _ (List.mem_append_left _ (List.mem_append_left _ (List.mem_of_getElem? (i := 9) rfl))), nowords_in⟩⟩⟩⟩)) ggX0_learnOf_X0_feltWeather
set_option maxRecDepth 20000 in
theorem ggX0_learnOf_X0_hasWord : GoodIn wsX0_learnOf wsX0_hasWord := goodIn_by gd_X0_learnOf (List.forall_mem_cons.mpr ⟨List.mem_cons_of_mem _ (List.mem_append_left _ (List.mem_append_left _ (List.mem_of_getElem? (i := 21) rfl))), List.forall_mem_append.mpr ⟨List.forall_mem_cons.mpr ⟨List.mem_cons_of_mem _ (List.mem_append_left _ (List.mem_append_left _ (List.mem_of_getElem? (i := 22) rfl))), List.forall_mem_cons.mpr ⟨List.mem_cons_of_mem _ (List.mem_append_left _ (List.mem_append_left _ (List.mem_of_getElem? (i := 23) rfl))), List.forall_mem_cons.mpr ⟨List.mem_cons_of_mem _ (List.mem_append_left _ (List.mem_append_right _ (List.mem_of_getElem? (i := 0) rfl))), nowords_in⟩⟩⟩, (fun _ h => List.mem_cons_of_mem _ (List.mem_append_right _ (h)))⟩⟩)
set_option maxRecDepth 20000 in
theorem gX0_learnOf_X0_hasWord : GoodIn wsX0_learnOf (wsV RX0 118 RX0 yX0_hasWord wsX0_hasWord) := goodIn_app (goodIn_by gd_X0_learnOf (List.forall_mem_cons.mpr ⟨List.mem_cons_of_mem _ (List.mem_append_left _ (List.mem_append_left _ (List.mem_of_getElem? (i := 18) rfl))), List.forall_mem_cons.mpr ⟨List.mem_cons_of_mem _ (List.mem_append_left _ (List.mem_append_left _ (List.mem_of_getElem? (i := 19) rfl))), List.forall_mem_cons.mpr ⟨List.mem_cons_of_mem _ (List.mem_append_left _ (List.mem_append_left _ (List.mem_of_getElem? (i := 20) rfl))), List.forall_mem_cons.mpr ⟨List.mem_cons_of_mem _ (List.mem_append_left _ (List.mem_append_left _ (List.mem_of_getElem? (i := 9) rfl))), nowords_in⟩⟩⟩⟩)) ggX0_learnOf_X0_hasWord
set_option maxRecDepth 20000 in
theorem ggX0_learnOf_X0_believes : GoodIn wsX0_learnOf wsX0_believes := goodIn_by gd_X0_learnOf (List.forall_mem_cons.mpr ⟨List.mem_cons_of_mem _ (List.mem_append_left _ (List.mem_append_right _ (List.mem_of_getElem? (i := 4) rfl))), List.forall_mem_append.mpr ⟨List.forall_mem_cons.mpr ⟨List.mem_cons_of_mem _ (List.mem_append_left _ (List.mem_append_left _ (List.mem_of_getElem? (i := 22) rfl))), List.forall_mem_cons.mpr ⟨List.mem_cons_of_mem _ (List.mem_append_left _ (List.mem_append_left _ (List.mem_of_getElem? (i := 18) rfl))), List.forall_mem_cons.mpr ⟨List.mem_cons_of_mem _ (List.mem_append_left _ (List.mem_append_left _ (List.mem_of_getElem? (i := 19) rfl))), List.forall_mem_cons.mpr ⟨List.mem_cons_of_mem _ (List.mem_append_left _ (List.mem_append_left _ (List.mem_of_getElem? (i := 20) rfl))), List.forall_mem_cons.mpr ⟨List.mem_cons_of_mem _ (List.mem_append_left _ (List.mem_append_left _ (List.mem_of_getElem? (i := 9) rfl))), List.forall_mem_cons.mpr ⟨List.mem_cons_of_mem _ (List.mem_append_left _ (List.mem_append_left _ (List.mem_of_getElem? (i := 21) rfl))), List.forall_mem_cons.mpr ⟨List.mem_cons_of_mem _ (List.mem_append_left _ (List.mem_append_left _ (List.mem_of_getElem? (i := 23) rfl))), List.forall_mem_cons.mpr ⟨List.mem_cons_of_mem _ (List.mem_append_left _ (List.mem_append_right _ (List.mem_of_getElem? (i := 0) rfl))), List.forall_mem_cons.mpr ⟨List.mem_cons_of_mem _ (List.mem_append_left _ (List.mem_append_right _ (List.mem_of_getElem? (i := 5) rfl))), List.forall_mem_cons.mpr ⟨List.mem_cons_of_mem _ (List.mem_append_left _ (List.mem_append_right _ (List.mem_of_getElem? (i := 6) rfl))), List.forall_mem_cons.mpr ⟨List.mem_cons_of_mem _ (List.mem_append_left _ (List.mem_append_right _ (List.mem_of_getElem? (i := 7) rfl))), List.forall_mem_cons.mpr ⟨List.mem_cons_of_mem _ (List.mem_append_left _ (List.mem_append_right _ (List.mem_of_getElem? (i := 8) rfl))), List.forall_mem_cons.mpr ⟨List.mem_cons_of_mem _ (List.mem_append_left _ (List.mem_append_right _ (List.mem_of_getElem? (i := 9) rfl))), nowords_in⟩⟩⟩⟩⟩⟩⟩⟩⟩⟩⟩⟩⟩, (fun _ h => List.mem_cons_of_mem _ (List.mem_append_right _ (h)))⟩⟩)
set_option maxRecDepth 20000 in
theorem gX0_learnOf_X0_believes : GoodIn wsX0_learnOf (wsV RX0 122 RX0 yX0_believes wsX0_believes) := goodIn_app (goodIn_by gd_X0_learnOf (List.forall_mem_cons.mpr ⟨List.mem_cons_of_mem _ (List.mem_append_left _ (List.mem_append_right _ (List.mem_of_getElem? (i := 1) rfl))), List.forall_mem_cons.mpr ⟨List.mem_cons_of_mem _ (List.mem_append_left _ (List.mem_append_right _ (List.mem_of_getElem? (i := 2) rfl))), List.forall_mem_cons.mpr ⟨List.mem_cons_of_mem _ (List.mem_append_left _ (List.mem_append_right _ (List.mem_of_getElem? (i := 3) rfl))), List.forall_mem_cons.mpr ⟨List.mem_cons_of_mem _ (List.mem_append_left _ (List.mem_append_left _ (List.mem_of_getElem? (i := 9) rfl))), nowords_in⟩⟩⟩⟩)) ggX0_learnOf_X0_believes
theorem dX0_learnOf_0 : decode cX0_learnOf 0 = .ok (.iconst 0, 1) := by decide +kernel
theorem dX0_learnOf_1 : decode cX0_learnOf 1 = .ok (.istore_n 2, 1) := by decide +kernel
theorem dX0_learnOf_2 : decode cX0_learnOf 2 = .ok (.iconst 0, 1) := by decide +kernel
theorem dX0_learnOf_3 : decode cX0_learnOf 3 = .ok (.istore_n 3, 1) := by decide +kernel
theorem dX0_learnOf_4 : decode cX0_learnOf 4 = .ok (.iload_n 3, 1) := by decide +kernel
theorem dX0_learnOf_5 : decode cX0_learnOf 5 = .ok (.aload_n 0, 1) := by decide +kernel
theorem dX0_learnOf_6 : decode cX0_learnOf 6 = .ok (.getfield 37, 3) := by decide +kernel
theorem dX0_learnOf_9 : decode cX0_learnOf 9 = .ok (.if_icmp .ge 71, 3) := by decide +kernel
theorem dX0_learnOf_12 : decode cX0_learnOf 12 = .ok (.aload_n 0, 1) := by decide +kernel
theorem dX0_learnOf_13 : decode cX0_learnOf 13 = .ok (.iload_n 3, 1) := by decide +kernel
theorem dX0_learnOf_14 : decode cX0_learnOf 14 = .ok (.invokevirtual 84, 3) := by decide +kernel
theorem dX0_learnOf_17 : decode cX0_learnOf 17 = .ok (.iload_n 1, 1) := by decide +kernel
theorem dX0_learnOf_18 : decode cX0_learnOf 18 = .ok (.lushr, 1) := by decide +kernel
theorem dX0_learnOf_19 : decode cX0_learnOf 19 = .ok (.lconst 1, 1) := by decide +kernel
theorem dX0_learnOf_20 : decode cX0_learnOf 20 = .ok (.land, 1) := by decide +kernel
theorem dX0_learnOf_21 : decode cX0_learnOf 21 = .ok (.lconst 0, 1) := by decide +kernel
theorem dX0_learnOf_22 : decode cX0_learnOf 22 = .ok (.lcmp, 1) := by decide +kernel
theorem dX0_learnOf_23 : decode cX0_learnOf 23 = .ok (.ifCond .eq 7, 3) := by decide +kernel
theorem dX0_learnOf_26 : decode cX0_learnOf 26 = .ok (.iconst 1, 1) := by decide +kernel
theorem dX0_learnOf_27 : decode cX0_learnOf 27 = .ok (.goto 4, 3) := by decide +kernel
theorem dX0_learnOf_30 : decode cX0_learnOf 30 = .ok (.iconst 0, 1) := by decide +kernel
theorem dX0_learnOf_31 : decode cX0_learnOf 31 = .ok (.istore 4, 2) := by decide +kernel
theorem dX0_learnOf_33 : decode cX0_learnOf 33 = .ok (.aload_n 0, 1) := by decide +kernel
theorem dX0_learnOf_34 : decode cX0_learnOf 34 = .ok (.iload_n 3, 1) := by decide +kernel
theorem dX0_learnOf_35 : decode cX0_learnOf 35 = .ok (.iload_n 1, 1) := by decide +kernel
theorem dX0_learnOf_36 : decode cX0_learnOf 36 = .ok (.invokevirtual 118, 3) := by decide +kernel
theorem dX0_learnOf_39 : decode cX0_learnOf 39 = .ok (.ifCond .eq 35, 3) := by decide +kernel
theorem dX0_learnOf_42 : decode cX0_learnOf 42 = .ok (.aload_n 0, 1) := by decide +kernel
theorem dX0_learnOf_43 : decode cX0_learnOf 43 = .ok (.iload_n 3, 1) := by decide +kernel
theorem dX0_learnOf_44 : decode cX0_learnOf 44 = .ok (.iload_n 1, 1) := by decide +kernel
theorem dX0_learnOf_45 : decode cX0_learnOf 45 = .ok (.invokevirtual 122, 3) := by decide +kernel
theorem dX0_learnOf_48 : decode cX0_learnOf 48 = .ok (.iload 4, 2) := by decide +kernel
theorem dX0_learnOf_50 : decode cX0_learnOf 50 = .ok (.if_icmp .eq 24, 3) := by decide +kernel
theorem dX0_learnOf_53 : decode cX0_learnOf 53 = .ok (.aload_n 0, 1) := by decide +kernel
theorem dX0_learnOf_54 : decode cX0_learnOf 54 = .ok (.getfield 28, 3) := by decide +kernel
theorem dX0_learnOf_57 : decode cX0_learnOf 57 = .ok (.iload_n 3, 1) := by decide +kernel
theorem dX0_learnOf_58 : decode cX0_learnOf 58 = .ok (.iconst 1, 1) := by decide +kernel
theorem dX0_learnOf_59 : decode cX0_learnOf 59 = .ok (.aload_n 0, 1) := by decide +kernel
theorem dX0_learnOf_60 : decode cX0_learnOf 60 = .ok (.getfield 28, 3) := by decide +kernel
theorem dX0_learnOf_63 : decode cX0_learnOf 63 = .ok (.iload_n 3, 1) := by decide +kernel
theorem dX0_learnOf_64 : decode cX0_learnOf 64 = .ok (.iaload, 1) := by decide +kernel
theorem dX0_learnOf_65 : decode cX0_learnOf 65 = .ok (.iconst 2, 1) := by decide +kernel
theorem dX0_learnOf_66 : decode cX0_learnOf 66 = .ok (.idiv, 1) := by decide +kernel
theorem dX0_learnOf_67 : decode cX0_learnOf 67 = .ok (.invokestatic 156, 3) := by decide +kernel
theorem dX0_learnOf_70 : decode cX0_learnOf 70 = .ok (.iastore, 1) := by decide +kernel
theorem dX0_learnOf_71 : decode cX0_learnOf 71 = .ok (.iinc 2 1, 3) := by decide +kernel
theorem dX0_learnOf_74 : decode cX0_learnOf 74 = .ok (.iinc 3 1, 3) := by decide +kernel
theorem dX0_learnOf_77 : decode cX0_learnOf 77 = .ok (.goto (-73), 3) := by decide +kernel
theorem dX0_learnOf_80 : decode cX0_learnOf 80 = .ok (.iload_n 2, 1) := by decide +kernel
theorem dX0_learnOf_81 : decode cX0_learnOf 81 = .ok (.ireturn, 1) := by decide +kernel
abbrev rmX0_learnOf : Room := { frames := 2, cells := 0, slots := 0, locals := 45 }
set_option maxHeartbeats 4000000 in
set_option maxRecDepth 100000 in
theorem kX0_learnOf (l : Launch) (D : va_G) (cy : Nat → ClassId) (h0 : Nat) (a0 : Nat → Nat) (s0 : Rc) (p1 : Int32) (res : Int32 × Rc) (h : fX0_learnOf p1 s0 = some res) : CI l D cy yX0_learnOf wsX0_learnOf rmX0_learnOf [.ref h0, .int p1] (flat [WX0 cy h0 a0 s0]) (flat [WX0 cy h0 a0 res.2]) res.1 := by
  refine CI.of (cc := cX0_learnOf) (maxL := 5) (by decide) rfl (Nat.le_of_ble_eq_true rfl) ?_
  intro p e s m args below meth c A QQ ls E hr
  obtain ⟨hx, hb, hml, hown, hts, hK, hN, hP, hD, hA, hl⟩ := E
  have hret : ∀ (pc : Nat) (H : Heap) (locs : List Loc) (ls : Array Slot) (u : Int32 × Rc), u = res → va_P D vwCl (flat [WX0 cy h0 a0 u.2]) H → va_D A (flat [WX0 cy h0 a0 u.2]) → va_S A s.heap H locs → decode cX0_learnOf pc = .ok (.ireturn, 1) → W p l e rmX0_learnOf s m args below meth c H locs 0 0 QQ (F0 m pc ls [.int u.1]) := by
    intro pc H locs ls u hu hP hD hS hd; subst hu; exact hr pc H locs ls _ rfl hP hD hS hd
  clear hr
  have hl : lv_has ls 5 [(0, .ref h0), (1, .int p1)] := hl
  have hinX0 : ∀ w ∈ wsX00, w ∈ wsX0_learnOf := fun _ h => List.mem_cons_of_mem _ (List.mem_append_right _ h)
  unfold fX0_learnOf at h
  suffices key : ∀ (H : Heap) (locs : List Loc), va_P D vwCl (flat [WX0 cy h0 a0 s0]) H → va_S A s.heap H locs → W p l e rmX0_learnOf s m args below meth c H locs 0 0 QQ (F0 m 0 ls []) from key _ _ hP va_S.rf
  clear hP
  intro H locs hP hS
  refine lv_iconst (v := 0) hx hb dX0_learnOf_0 (by decide) ?_
  refine lv_istore_n (lv' := [(2, .int (0 : Int32)), (0, .ref h0), (1, .int p1)]) hx hb dX0_learnOf_1 rfl hl (by decide) rfl (fun ls hl => ?_)
  refine lv_iconst (v := 0) hx hb dX0_learnOf_2 (by decide) ?_
  refine lv_istore_n (lv' := [(3, .int (0 : Int32)), (2, .int (0 : Int32)), (0, .ref h0), (1, .int p1)]) hx hb dX0_learnOf_3 rfl hl (by decide) rfl (fun ls hl => ?_)
  have L4 : ∀ (n : Nat) (q4 : Int32 × Int32 × Rc) (o : Int32 × Rc), loopO (fX0_learnOf_L4 p1) n q4 = some o → ∀ (H : Heap) (locs : List Loc) (ls : Array Slot), lv_has ls 5 [(0, .ref h0), (1, .int p1), (2, .int q4.1), (3, .int q4.2.1)] → va_P D vwCl (flat [WX0 cy h0 a0 q4.2.2]) H → va_D A (flat [WX0 cy h0 a0 q4.2.2]) → va_S A s.heap H locs → ∀ (kk80 : ∀ (H : Heap) (locs : List Loc) (ls : Array Slot), lv_has ls 5 [(2, .int o.1)] → va_P D vwCl (flat [WX0 cy h0 a0 o.2]) H → va_D A (flat [WX0 cy h0 a0 o.2]) → va_S A s.heap H locs → W p l e rmX0_learnOf s m args below meth c H locs 0 0 QQ (F0 m 80 ls [])), W p l e rmX0_learnOf s m args below meth c H locs 0 0 QQ (F0 m 4 ls []) := by
    intro n
    induction n with
    | zero => intro q4 o h; exact absurd h (by rw [loopO_zero]; intro z; cases z)
    | succ n ih =>
      intro q4 o h H locs ls hl hP hD hS kk80
      obtain ⟨w, h, hgo, hst⟩ := loopO_elim h
      unfold fX0_learnOf_L4 at h
      have J31 : ∀ (z31_0 : Int32) (H : Heap) (locs : List Loc) (ls : Array Slot), lv_has ls 5 [(0, .ref h0), (1, .int p1), (2, .int q4.1), (3, .int q4.2.1)] → va_P D vwCl (flat [WX0 cy h0 a0 q4.2.2]) H → va_D A (flat [WX0 cy h0 a0 q4.2.2]) → va_S A s.heap H locs → fX0_learnOf_J31 p1 q4 z31_0 = some w → W p l e rmX0_learnOf s m args below meth c H locs 0 0 QQ (F0 m 31 ls [.int z31_0]) := by
        intro z31_0 H locs ls hl hP hD hS h
        unfold fX0_learnOf_J31 at h
        refine lv_istore (lv' := [(4, .int z31_0), (0, .ref h0), (1, .int p1), (2, .int q4.1), (3, .int q4.2.1)]) hx hb dX0_learnOf_31 hl (by decide) rfl (fun ls hl => ?_)
        refine lv_aload_n hx hb dX0_learnOf_33 rfl (lv_at hl 1 rfl) ?_
        refine lv_iload_n hx hb dX0_learnOf_34 rfl (lv_at hl 4 rfl) ?_
        refine lv_iload_n hx hb dX0_learnOf_35 rfl (lv_at hl 2 rfl) ?_
        obtain ⟨r1, hr1, h⟩ := bd_elim h
        refine ca_z (w' := [WX0 cy h0 a0 q4.2.2]) (rn_V (As := [.int q4.2.1, .int p1]) (rest := []) ⟨hx, hb, hml, hown, hts⟩ (kX0_hasWord l D cy h0 a0 q4.2.2 q4.2.1 p1 r1 hr1 H.size) (cwV 2 hts gX0_learnOf_X0_hasWord rfl rfl rfl (by decide +kernel) ⟨Nat.le_of_ble_eq_true rfl, Nat.le_of_ble_eq_true rfl⟩) hK hN hP hD [0] rfl rfl (ci := 0) (q0 := 0) rfl rfl rfl rfl hl.1 rfl (Nat.le_of_ble_eq_true rfl) dX0_learnOf_36 ⟨Nat.le_refl 0, Nat.le_refl 0⟩) hP hD hS hA [0] ⟨rfl, rfl, rfl, rfl⟩ (fun b2 H locs hP hD hS => ?_)
        refine lv_if_eq (tgt := 74) hx hb dX0_learnOf_39 (by decide) (fun c3 => ?_) (fun c3 => ?_)
        · replace h := (if_pos c3).symm.trans h
          refine lv_iinc (v := (q4.2.1 + (1 : Int32))) (lv' := [(3, .int (q4.2.1 + (1 : Int32))), (4, .int z31_0), (0, .ref h0), (1, .int p1), (2, .int q4.1)]) hx hb dX0_learnOf_74 hl (k := 4) rfl rfl (by decide) rfl (fun ls hl => ?_)
          refine lv_goto (tgt := 4) hx hb dX0_learnOf_77 (by decide) ?_
          exact ih _ o (hgo _ (Option.some.inj h).symm) H locs ls (lv_sub hl [2, 3, 4, 0] rfl) hP hD hS kk80
        · replace h := (if_neg c3).symm.trans h
          refine lv_aload_n hx hb dX0_learnOf_42 rfl (lv_at hl 1 rfl) ?_
          refine lv_iload_n hx hb dX0_learnOf_43 rfl (lv_at hl 4 rfl) ?_
          refine lv_iload_n hx hb dX0_learnOf_44 rfl (lv_at hl 2 rfl) ?_
          obtain ⟨r4, hr4, h⟩ := bd_elim h
          refine ca_z (w' := [WX0 cy h0 a0 q4.2.2]) (rn_V (As := [.int q4.2.1, .int p1]) (rest := []) ⟨hx, hb, hml, hown, hts⟩ (kX0_believes l D cy h0 a0 q4.2.2 q4.2.1 p1 r4 hr4 H.size) (cwV 2 hts gX0_learnOf_X0_believes rfl rfl rfl (by decide +kernel) ⟨Nat.le_of_ble_eq_true rfl, Nat.le_of_ble_eq_true rfl⟩) hK hN hP hD [0] rfl rfl (ci := 0) (q0 := 0) rfl rfl rfl rfl hl.1 rfl (Nat.le_of_ble_eq_true rfl) dX0_learnOf_45 ⟨Nat.le_refl 0, Nat.le_refl 0⟩) hP hD hS hA [0] ⟨rfl, rfl, rfl, rfl⟩ (fun b5 H locs hP hD hS => ?_)
          refine lv_iload hx hb dX0_learnOf_48 (lv_at hl 0 rfl) ?_
          refine lv_icmp_eq (tgt := 74) hx hb dX0_learnOf_50 (by decide) (fun c6 => ?_) (fun c6 => ?_)
          · replace h := (if_pos c6).symm.trans h
            refine lv_iinc (v := (q4.2.1 + (1 : Int32))) (lv' := [(3, .int (q4.2.1 + (1 : Int32))), (4, .int z31_0), (0, .ref h0), (1, .int p1), (2, .int q4.1)]) hx hb dX0_learnOf_74 hl (k := 4) rfl rfl (by decide) rfl (fun ls hl => ?_)
            refine lv_goto (tgt := 4) hx hb dX0_learnOf_77 (by decide) ?_
            exact ih _ o (hgo _ (Option.some.inj h).symm) H locs ls (lv_sub hl [2, 3, 4, 0] rfl) hP hD hS kk80
          · replace h := (if_neg c6).symm.trans h
            refine lv_aload_n hx hb dX0_learnOf_53 rfl (lv_at hl 1 rfl) ?_
            refine va_get (D := D) (ci := 0) (v := .ref (a0 5)) (C := RX0) (T := TX0) (N := 14) hx hb hts hinX0 hown hK hP 0 rfl rfl 5 (by decide) (hts (.fieldLink RX0 28 "KneeBench$Bench" "weights" "[I") (List.mem_of_getElem? (i := 2) rfl)) (fun _ h9 => h9) rfl dX0_learnOf_54 ?_
            refine lv_iload_n hx hb dX0_learnOf_57 rfl (lv_at hl 4 rfl) ?_
            refine lv_iconst (v := 1) hx hb dX0_learnOf_58 (by decide) ?_
            refine lv_aload_n hx hb dX0_learnOf_59 rfl (lv_at hl 1 rfl) ?_
            refine va_get (D := D) (ci := 0) (v := .ref (a0 5)) (C := RX0) (T := TX0) (N := 14) hx hb hts hinX0 hown hK hP 0 rfl rfl 5 (by decide) (hts (.fieldLink RX0 28 "KneeBench$Bench" "weights" "[I") (List.mem_of_getElem? (i := 2) rfl)) (fun _ h9 => h9) rfl dX0_learnOf_60 ?_
            refine lv_iload_n hx hb dX0_learnOf_63 rfl (lv_at hl 4 rfl) ?_
            obtain ⟨g7, h⟩ := gd_elim h
            refine va_iald hx hb hK hP 6 1 rfl rfl (inb_in g7) dX0_learnOf_64 ?_
            refine lv_iconst (v := 2) hx hb dX0_learnOf_65 (by decide) ?_
            refine lv_idiv hx hb dX0_learnOf_66 (by decide) ?_
            refine va_mmax hx hb (hml.trans hl.1.symm) hown (hts (.methodLink RX0 156 Lib.Math.max.name) (List.mem_of_getElem? (i := 3) rfl)) (hts (.static Lib.Math.max.name) (List.mem_of_getElem? (i := 4) rfl)) (hts (.initialized "java/lang/Math") (List.mem_of_getElem? (i := 5) rfl)) (hts (.code Lib.Math.max.name Lib.Math.max.code 2 (some .int)) (List.mem_of_getElem? (i := 6) rfl)) (Nat.le_of_ble_eq_true rfl) (Nat.le_of_ble_eq_true rfl) (Nat.le_refl 0) (Nat.le_refl 0) dX0_learnOf_67 ?_
            obtain ⟨s0_8, es, h⟩ := lt_elim h
            refine va_iast hx hb hK hP hD hS 6 1 rfl rfl (inb_in g7) dX0_learnOf_70 (fun H locs hP hD hS => ?_)
            have hP : va_P D vwCl (flat [WX0 cy h0 a0 s0_8]) H := by rw [es]; exact hP
            have hD : va_D A (flat [WX0 cy h0 a0 s0_8]) := by rw [es]; exact hD
            clear es
            refine lv_iinc (v := (q4.1 + (1 : Int32))) (lv' := [(2, .int (q4.1 + (1 : Int32))), (4, .int z31_0), (0, .ref h0), (1, .int p1), (3, .int q4.2.1)]) hx hb dX0_learnOf_71 hl (k := 3) rfl rfl (by decide) rfl (fun ls hl => ?_)
            refine lv_iinc (v := (q4.2.1 + (1 : Int32))) (lv' := [(3, .int (q4.2.1 + (1 : Int32))), (2, .int (q4.1 + (1 : Int32))), (4, .int z31_0), (0, .ref h0), (1, .int p1)]) hx hb dX0_learnOf_74 hl (k := 4) rfl rfl (by decide) rfl (fun ls hl => ?_)
            refine lv_goto (tgt := 4) hx hb dX0_learnOf_77 (by decide) ?_
            exact ih _ o (hgo _ (Option.some.inj h).symm) H locs ls (lv_sub hl [3, 4, 1, 0] rfl) hP hD hS kk80
      refine lv_iload_n hx hb dX0_learnOf_4 rfl (lv_at hl 3 rfl) ?_
      refine lv_aload_n hx hb dX0_learnOf_5 rfl (lv_at hl 0 rfl) ?_
      refine va_get (D := D) (ci := 0) (v := .int (gi q4.2.2 8)) (C := RX0) (T := TX0) (N := 14) hx hb hts hinX0 hown hK hP 0 rfl rfl 8 (by decide) (hts (.fieldLink RX0 37 "KneeBench$Bench" "farmers" "I") (List.mem_of_getElem? (i := 1) rfl)) (fun _ h9 => h9) rfl dX0_learnOf_6 ?_
      refine lv_icmp_ge (tgt := 80) hx hb dX0_learnOf_9 (by decide) (fun c9 => ?_) (fun c9 => ?_)
      · replace h := (if_pos c9).symm.trans h
        have eo := hst _ (Option.some.inj h).symm
        subst eo
        exact kk80 H locs ls (lv_sub hl [2] rfl) hP hD hS
      · replace h := (if_neg c9).symm.trans h
        refine lv_aload_n hx hb dX0_learnOf_12 rfl (lv_at hl 0 rfl) ?_
        refine lv_iload_n hx hb dX0_learnOf_13 rfl (lv_at hl 3 rfl) ?_
        refine ca_l (w' := [WX0 cy h0 a0 q4.2.2]) (rn_V (As := [.int q4.2.1]) (rest := []) ⟨hx, hb, hml, hown, hts⟩ (kX0_feltWeather l D cy h0 a0 q4.2.2 q4.2.1 _ rfl H.size) (cwV 1 hts gX0_learnOf_X0_feltWeather rfl rfl rfl (by decide +kernel) ⟨Nat.le_of_ble_eq_true rfl, Nat.le_of_ble_eq_true rfl⟩) hK hN hP hD [0] rfl rfl (ci := 0) (q0 := 0) rfl rfl rfl rfl hl.1 rfl (Nat.le_of_ble_eq_true rfl) dX0_learnOf_14 ⟨Nat.le_refl 0, Nat.le_refl 0⟩) hP hD hS hA [0] ⟨rfl, rfl, rfl, rfl⟩ (fun H locs hP hD hS => ?_)
        refine lv_iload_n hx hb dX0_learnOf_17 rfl (lv_at hl 1 rfl) ?_
        refine lv_lushr hx hb dX0_learnOf_18 rfl ?_
        refine lv_lconst (v := 1) hx hb dX0_learnOf_19 (by decide) ?_
        refine lv_land hx hb dX0_learnOf_20 ?_
        refine lv_lconst (v := 0) hx hb dX0_learnOf_21 (by decide) ?_
        refine W.lcmp hx hb dX0_learnOf_22 ?_
        refine lv_if_eq (tgt := 30) hx hb dX0_learnOf_23 (by decide) (fun c10 => ?_) (fun c10 => ?_)
        · replace h := (if_pos (lg_ceq.mp c10)).symm.trans h
          refine lv_iconst (v := 0) hx hb dX0_learnOf_30 (by decide) ?_
          exact J31 (0 : Int32) H locs ls (lv_sub hl [0, 1, 2, 3] rfl) hP hD hS h
        · replace h := (if_neg (fun z => c10 (lg_ceq.mpr z))).symm.trans h
          refine lv_iconst (v := 1) hx hb dX0_learnOf_26 (by decide) ?_
          refine lv_goto (tgt := 31) hx hb dX0_learnOf_27 (by decide) ?_
          exact J31 (1 : Int32) H locs ls (lv_sub hl [0, 1, 2, 3] rfl) hP hD hS h
  obtain ⟨o4, ho4, h⟩ := bd_elim h
  obtain ⟨n4, hn4⟩ := loopF_some ho4
  refine L4 n4 _ o4 hn4 H locs ls (lv_sub hl [2, 3, 1, 0] rfl) hP hD hS (fun H locs ls hl hP hD hS => ?_)
  refine lv_iload_n hx hb dX0_learnOf_80 rfl (lv_at hl 0 rfl) ?_
  exact hret 81 H locs ls (o4.1, o4.2) (Option.some.inj h) hP hD hS dX0_learnOf_81
theorem gd_X0_toldDays : wsX0_toldDays.all goodWord = true := by decide +kernel
set_option maxRecDepth 20000 in
theorem ggX0_toldDays_X0_feelingDays : GoodIn wsX0_toldDays wsX0_feelingDays := goodIn_by gd_X0_toldDays (List.forall_mem_cons.mpr ⟨List.mem_cons_of_mem _ (List.mem_append_left _ (List.mem_of_getElem? (i := 5) rfl)), List.forall_mem_append.mpr ⟨List.forall_mem_cons.mpr ⟨List.mem_cons_of_mem _ (List.mem_append_left _ (List.mem_of_getElem? (i := 6) rfl)), List.forall_mem_cons.mpr ⟨List.mem_cons_of_mem _ (List.mem_append_left _ (List.mem_of_getElem? (i := 7) rfl)), List.forall_mem_cons.mpr ⟨List.mem_cons_of_mem _ (List.mem_append_left _ (List.mem_of_getElem? (i := 8) rfl)), List.forall_mem_cons.mpr ⟨List.mem_cons_of_mem _ (List.mem_append_left _ (List.mem_of_getElem? (i := 9) rfl)), List.forall_mem_cons.mpr ⟨List.mem_cons_of_mem _ (List.mem_append_left _ (List.mem_of_getElem? (i := 10) rfl)), List.forall_mem_cons.mpr ⟨List.mem_cons_of_mem _ (List.mem_append_left _ (List.mem_of_getElem? (i := 11) rfl)), List.forall_mem_cons.mpr ⟨List.mem_cons_of_mem _ (List.mem_append_left _ (List.mem_of_getElem? (i := 12) rfl)), List.forall_mem_cons.mpr ⟨List.mem_cons_of_mem _ (List.mem_append_left _ (List.mem_of_getElem? (i := 13) rfl)), List.forall_mem_cons.mpr ⟨List.mem_cons_of_mem _ (List.mem_append_left _ (List.mem_of_getElem? (i := 14) rfl)), nowords_in⟩⟩⟩⟩⟩⟩⟩⟩⟩, (fun _ h => List.mem_cons_of_mem _ (List.mem_append_right _ (h)))⟩⟩)
set_option maxRecDepth 20000 in
theorem gX0_toldDays_X0_feelingDays : GoodIn wsX0_toldDays (wsV RX0 91 RX0 yX0_feelingDays wsX0_feelingDays) := goodIn_app (goodIn_by gd_X0_toldDays (List.forall_mem_cons.mpr ⟨List.mem_cons_of_mem _ (List.mem_append_left _ (List.mem_of_getElem? (i := 1) rfl)), List.forall_mem_cons.mpr ⟨List.mem_cons_of_mem _ (List.mem_append_left _ (List.mem_of_getElem? (i := 2) rfl)), List.forall_mem_cons.mpr ⟨List.mem_cons_of_mem _ (List.mem_append_left _ (List.mem_of_getElem? (i := 3) rfl)), List.forall_mem_cons.mpr ⟨List.mem_cons_of_mem _ (List.mem_append_left _ (List.mem_of_getElem? (i := 4) rfl)), nowords_in⟩⟩⟩⟩)) ggX0_toldDays_X0_feelingDays
set_option maxRecDepth 20000 in
theorem ggX0_toldDays_X10_later : GoodIn wsX0_toldDays wsX10_later := goodIn_by gd_X0_toldDays (List.forall_mem_cons.mpr ⟨List.mem_cons_of_mem _ (List.mem_append_left _ (List.mem_of_getElem? (i := 16) rfl)), nowords_in⟩)
set_option maxRecDepth 20000 in
theorem gX0_toldDays_X10_later_n87 : GoodIn wsX0_toldDays (wsX10_later) := ggX0_toldDays_X10_later
set_option maxRecDepth 20000 in
theorem ggX0_toldDays_X0_daysThere : GoodIn wsX0_toldDays wsX0_daysThere := goodIn_by gd_X0_toldDays (List.forall_mem_cons.mpr ⟨List.mem_cons_of_mem _ (List.mem_append_left _ (List.mem_of_getElem? (i := 20) rfl)), List.forall_mem_append.mpr ⟨List.forall_mem_cons.mpr ⟨List.mem_cons_of_mem _ (List.mem_append_left _ (List.mem_of_getElem? (i := 6) rfl)), List.forall_mem_cons.mpr ⟨List.mem_cons_of_mem _ (List.mem_append_left _ (List.mem_of_getElem? (i := 12) rfl)), List.forall_mem_cons.mpr ⟨List.mem_cons_of_mem _ (List.mem_append_left _ (List.mem_of_getElem? (i := 13) rfl)), List.forall_mem_cons.mpr ⟨List.mem_cons_of_mem _ (List.mem_append_left _ (List.mem_of_getElem? (i := 14) rfl)), nowords_in⟩⟩⟩⟩, (fun _ h => List.mem_cons_of_mem _ (List.mem_append_right _ (h)))⟩⟩)
set_option maxRecDepth 20000 in
theorem gX0_toldDays_X0_daysThere : GoodIn wsX0_toldDays (wsV RX0 112 RX0 yX0_daysThere wsX0_daysThere) := goodIn_app (goodIn_by gd_X0_toldDays (List.forall_mem_cons.mpr ⟨List.mem_cons_of_mem _ (List.mem_append_left _ (List.mem_of_getElem? (i := 17) rfl)), List.forall_mem_cons.mpr ⟨List.mem_cons_of_mem _ (List.mem_append_left _ (List.mem_of_getElem? (i := 18) rfl)), List.forall_mem_cons.mpr ⟨List.mem_cons_of_mem _ (List.mem_append_left _ (List.mem_of_getElem? (i := 19) rfl)), List.forall_mem_cons.mpr ⟨List.mem_cons_of_mem _ (List.mem_append_left _ (List.mem_of_getElem? (i := 4) rfl)), nowords_in⟩⟩⟩⟩)) ggX0_toldDays_X0_daysThere
theorem dX0_toldDays_0 : decode cX0_toldDays 0 = .ok (.aload_n 0, 1) := by decide +kernel
theorem dX0_toldDays_1 : decode cX0_toldDays 1 = .ok (.iload_n 1, 1) := by decide +kernel
theorem dX0_toldDays_2 : decode cX0_toldDays 2 = .ok (.invokevirtual 91, 3) := by decide +kernel
theorem dX0_toldDays_5 : decode cX0_toldDays 5 = .ok (.aload_n 0, 1) := by decide +kernel
theorem dX0_toldDays_6 : decode cX0_toldDays 6 = .ok (.getfield 15, 3) := by decide +kernel
theorem dX0_toldDays_9 : decode cX0_toldDays 9 = .ok (.iload_n 1, 1) := by decide +kernel
theorem dX0_toldDays_10 : decode cX0_toldDays 10 = .ok (.iaload, 1) := by decide +kernel
theorem dX0_toldDays_11 : decode cX0_toldDays 11 = .ok (.invokestatic 87, 3) := by decide +kernel
theorem dX0_toldDays_14 : decode cX0_toldDays 14 = .ok (.aload_n 0, 1) := by decide +kernel
theorem dX0_toldDays_15 : decode cX0_toldDays 15 = .ok (.invokevirtual 112, 3) := by decide +kernel
theorem dX0_toldDays_18 : decode cX0_toldDays 18 = .ok (.land, 1) := by decide +kernel
theorem dX0_toldDays_19 : decode cX0_toldDays 19 = .ok (.lreturn, 1) := by decide +kernel
abbrev rmX0_toldDays : Room := { frames := 2, cells := 0, slots := 0, locals := 41 }
set_option maxHeartbeats 4000000 in
set_option maxRecDepth 100000 in
theorem kX0_toldDays (l : Launch) (D : va_G) (cy : Nat → ClassId) (h0 : Nat) (a0 : Nat → Nat) (s0 : Rc) (p1 : Int32) (res : Int64) (h : fX0_toldDays p1 s0 = some res) : CL l D cy yX0_toldDays wsX0_toldDays rmX0_toldDays [.ref h0, .int p1] (flat [WX0 cy h0 a0 s0]) (flat [WX0 cy h0 a0 s0]) res := by
  refine CL.of (cc := cX0_toldDays) (maxL := 2) (by decide) rfl (Nat.le_of_ble_eq_true rfl) ?_
  intro p e s m args below meth c A QQ ls E hr
  obtain ⟨hx, hb, hml, hown, hts, hK, hN, hP, hD, hA, hl⟩ := E
  have hret : ∀ (pc : Nat) (H : Heap) (locs : List Loc) (ls : Array Slot) (u : Int64), u = res → va_P D vwCl (flat [WX0 cy h0 a0 s0]) H → va_D A (flat [WX0 cy h0 a0 s0]) → va_S A s.heap H locs → decode cX0_toldDays pc = .ok (.lreturn, 1) → W p l e rmX0_toldDays s m args below meth c H locs 0 0 QQ (F0 m pc ls [.long u]) := by
    intro pc H locs ls u hu hP hD hS hd; subst hu; exact hr pc H locs ls _ rfl hP hD hS hd
  clear hr
  have hl : lv_has ls 2 [(0, .ref h0), (1, .int p1)] := hl
  have hinX0 : ∀ w ∈ wsX00, w ∈ wsX0_toldDays := fun _ h => List.mem_cons_of_mem _ (List.mem_append_right _ h)
  unfold fX0_toldDays at h
  suffices key : ∀ (H : Heap) (locs : List Loc), va_P D vwCl (flat [WX0 cy h0 a0 s0]) H → va_S A s.heap H locs → W p l e rmX0_toldDays s m args below meth c H locs 0 0 QQ (F0 m 0 ls []) from key _ _ hP va_S.rf
  clear hP
  intro H locs hP hS
  refine lv_aload_n hx hb dX0_toldDays_0 rfl (lv_at hl 0 rfl) ?_
  refine lv_iload_n hx hb dX0_toldDays_1 rfl (lv_at hl 1 rfl) ?_
  obtain ⟨r1, hr1, h⟩ := bd_elim h
  refine ca_l (w' := [WX0 cy h0 a0 s0]) (rn_V (As := [.int p1]) (rest := []) ⟨hx, hb, hml, hown, hts⟩ (kX0_feelingDays l D cy h0 a0 s0 p1 r1 hr1 H.size) (cwV 1 hts gX0_toldDays_X0_feelingDays rfl rfl rfl (by decide +kernel) ⟨Nat.le_of_ble_eq_true rfl, Nat.le_of_ble_eq_true rfl⟩) hK hN hP hD [0] rfl rfl (ci := 0) (q0 := 0) rfl rfl rfl rfl hl.1 rfl (Nat.le_of_ble_eq_true rfl) dX0_toldDays_2 ⟨Nat.le_refl 0, Nat.le_refl 0⟩) hP hD hS hA [0] ⟨rfl, rfl, rfl, rfl⟩ (fun H locs hP hD hS => ?_)
  refine lv_aload_n hx hb dX0_toldDays_5 rfl (lv_at hl 0 rfl) ?_
  refine va_get (D := D) (ci := 0) (v := .ref (a0 1)) (C := RX0) (T := TX0) (N := 14) hx hb hts hinX0 hown hK hP 0 rfl rfl 1 (by decide) (hts (.fieldLink RX0 15 "KneeBench$Bench" "lags" "[I") (List.mem_of_getElem? (i := 1) rfl)) (fun _ h9 => h9) rfl dX0_toldDays_6 ?_
  refine lv_iload_n hx hb dX0_toldDays_9 rfl (lv_at hl 1 rfl) ?_
  obtain ⟨g2, h⟩ := gd_elim h
  refine va_iald hx hb hK hP 2 1 rfl rfl (inb_in g2) dX0_toldDays_10 ?_
  refine ca_l (w' := [WX0 cy h0 a0 s0]) (rn_SN (As := [.long r1, .int (ga s0 1 p1.toNatClampNeg)]) (rest := []) ⟨hx, hb, hml, hown, hts⟩ (kX10_later l D cy r1 (ga s0 1 p1.toNatClampNeg) _ rfl H.size) ⟨va_cnB 2 hts gX0_toldDays_X10_later_n87 rfl rfl rfl (NW.met hN 12 rfl) (hts (.initialized RX10) (List.mem_of_getElem? (i := 14) rfl)) (by decide +kernel) ⟨Nat.le_of_ble_eq_true rfl, Nat.le_of_ble_eq_true rfl⟩, hts (.static yX10_later) (List.mem_of_getElem? (i := 16) rfl), trivial⟩ hK hN hP hD [] rfl rfl rfl hl.1 rfl (Nat.le_of_ble_eq_true rfl) dX0_toldDays_11 ⟨Nat.le_refl 0, Nat.le_refl 0⟩) hP hD hS hA [] ⟨rfl, rfl, rfl, rfl⟩ (fun H locs hP hD hS => ?_)
  refine lv_aload_n hx hb dX0_toldDays_14 rfl (lv_at hl 0 rfl) ?_
  refine ca_l (w' := [WX0 cy h0 a0 s0]) (rn_V (As := []) (rest := [.long (fX10_later r1 (ga s0 1 p1.toNatClampNeg))]) ⟨hx, hb, hml, hown, hts⟩ (kX0_daysThere l D cy h0 a0 s0 _ rfl H.size) (cwV 0 hts gX0_toldDays_X0_daysThere rfl rfl rfl (by decide +kernel) ⟨Nat.le_of_ble_eq_true rfl, Nat.le_of_ble_eq_true rfl⟩) hK hN hP hD [0] rfl rfl (ci := 0) (q0 := 0) rfl rfl rfl rfl hl.1 rfl (Nat.le_of_ble_eq_true rfl) dX0_toldDays_15 ⟨Nat.le_refl 0, Nat.le_refl 0⟩) hP hD hS hA [0] ⟨rfl, rfl, rfl, rfl⟩ (fun H locs hP hD hS => ?_)
  refine lv_land hx hb dX0_toldDays_18 ?_
  exact hret 19 H locs ls ((fX10_later r1 (ga s0 1 p1.toNatClampNeg)) &&& (fX0_daysThere s0)) (Option.some.inj h) hP hD hS dX0_toldDays_19
theorem gd_X0_rightDays : wsX0_rightDays.all goodWord = true := by decide +kernel
set_option maxRecDepth 20000 in
theorem ggX0_rightDays_X0_toldDays : GoodIn wsX0_rightDays wsX0_toldDays := goodIn_by gd_X0_rightDays (List.forall_mem_cons.mpr ⟨List.mem_cons_of_mem _ (List.mem_append_left _ (List.mem_append_left _ (List.mem_of_getElem? (i := 5) rfl))), List.forall_mem_append.mpr ⟨List.forall_mem_cons.mpr ⟨List.mem_cons_of_mem _ (List.mem_append_left _ (List.mem_append_left _ (List.mem_of_getElem? (i := 6) rfl))), List.forall_mem_cons.mpr ⟨List.mem_cons_of_mem _ (List.mem_append_left _ (List.mem_append_left _ (List.mem_of_getElem? (i := 7) rfl))), List.forall_mem_cons.mpr ⟨List.mem_cons_of_mem _ (List.mem_append_left _ (List.mem_append_left _ (List.mem_of_getElem? (i := 8) rfl))), List.forall_mem_cons.mpr ⟨List.mem_cons_of_mem _ (List.mem_append_left _ (List.mem_append_left _ (List.mem_of_getElem? (i := 9) rfl))), List.forall_mem_cons.mpr ⟨List.mem_cons_of_mem _ (List.mem_append_left _ (List.mem_append_left _ (List.mem_of_getElem? (i := 4) rfl))), List.forall_mem_cons.mpr ⟨List.mem_cons_of_mem _ (List.mem_append_left _ (List.mem_append_left _ (List.mem_of_getElem? (i := 10) rfl))), List.forall_mem_cons.mpr ⟨List.mem_cons_of_mem _ (List.mem_append_left _ (List.mem_append_left _ (List.mem_of_getElem? (i := 11) rfl))), List.forall_mem_cons.mpr ⟨List.mem_cons_of_mem _ (List.mem_append_left _ (List.mem_append_left _ (List.mem_of_getElem? (i := 12) rfl))), List.forall_mem_cons.mpr ⟨List.mem_cons_of_mem _ (List.mem_append_left _ (List.mem_append_left _ (List.mem_of_getElem? (i := 13) rfl))), List.forall_mem_cons.mpr ⟨List.mem_cons_of_mem _ (List.mem_append_left _ (List.mem_append_left _ (List.mem_of_getElem? (i := 14) rfl))), List.forall_mem_cons.mpr ⟨List.mem_cons_of_mem _ (List.mem_append_left _ (List.mem_append_left _ (List.mem_of_getElem? (i := 15) rfl))), List.forall_mem_cons.mpr ⟨List.mem_cons_of_mem _ (List.mem_append_left _ (List.mem_append_left _ (List.mem_of_getElem? (i := 16) rfl))), List.forall_mem_cons.mpr ⟨List.mem_cons_of_mem _ (List.mem_append_left _ (List.mem_append_left _ (List.mem_of_getElem? (i := 17) rfl))), List.forall_mem_cons.mpr ⟨List.mem_cons_of_mem _ (List.mem_append_left _ (List.mem_append_left _ (List.mem_of_getElem? (i := 18) rfl))), List.forall_mem_cons.mpr ⟨List.mem_cons_of_mem _ (List.mem_append_left _ (List.mem_append_left _ (List.mem_of_getElem? (i := 19) rfl))), List.forall_mem_cons.mpr ⟨List.mem_cons_of_mem _ (List.mem_append_left _ (List.mem_append_left _ (List.mem_of_getElem? (i := 20) rfl))), List.forall_mem_cons.mpr ⟨List.mem_cons_of_mem _ (List.mem_append_left _ (List.mem_append_left _ (List.mem_of_getElem? (i := 21) rfl))), List.forall_mem_cons.mpr ⟨List.mem_cons_of_mem _ (List.mem_append_left _ (List.mem_append_left _ (List.mem_of_getElem? (i := 22) rfl))), List.forall_mem_cons.mpr ⟨List.mem_cons_of_mem _ (List.mem_append_left _ (List.mem_append_left _ (List.mem_of_getElem? (i := 23) rfl))), List.forall_mem_cons.mpr ⟨List.mem_cons_of_mem _ (List.mem_append_left _ (List.mem_append_right _ (List.mem_of_getElem? (i := 0) rfl))), List.forall_mem_cons.mpr ⟨List.mem_cons_of_mem _ (List.mem_append_left _ (List.mem_append_right _ (List.mem_of_getElem? (i := 1) rfl))), nowords_in⟩⟩⟩⟩⟩⟩⟩⟩⟩⟩⟩⟩⟩⟩⟩⟩⟩⟩⟩⟩⟩, (fun _ h => List.mem_cons_of_mem _ (List.mem_append_right _ (h)))⟩⟩)
set_option maxRecDepth 20000 in
theorem gX0_rightDays_X0_toldDays : GoodIn wsX0_rightDays (wsV RX0 128 RX0 yX0_toldDays wsX0_toldDays) := goodIn_app (goodIn_by gd_X0_rightDays (List.forall_mem_cons.mpr ⟨List.mem_cons_of_mem _ (List.mem_append_left _ (List.mem_append_left _ (List.mem_of_getElem? (i := 1) rfl))), List.forall_mem_cons.mpr ⟨List.mem_cons_of_mem _ (List.mem_append_left _ (List.mem_append_left _ (List.mem_of_getElem? (i := 2) rfl))), List.forall_mem_cons.mpr ⟨List.mem_cons_of_mem _ (List.mem_append_left _ (List.mem_append_left _ (List.mem_of_getElem? (i := 3) rfl))), List.forall_mem_cons.mpr ⟨List.mem_cons_of_mem _ (List.mem_append_left _ (List.mem_append_left _ (List.mem_of_getElem? (i := 4) rfl))), nowords_in⟩⟩⟩⟩)) ggX0_rightDays_X0_toldDays
set_option maxRecDepth 20000 in
theorem ggX0_rightDays_X0_rainDays : GoodIn wsX0_rightDays wsX0_rainDays := goodIn_by gd_X0_rightDays (List.forall_mem_cons.mpr ⟨List.mem_cons_of_mem _ (List.mem_append_left _ (List.mem_append_right _ (List.mem_of_getElem? (i := 5) rfl))), List.forall_mem_append.mpr ⟨List.forall_mem_cons.mpr ⟨List.mem_cons_of_mem _ (List.mem_append_left _ (List.mem_append_right _ (List.mem_of_getElem? (i := 6) rfl))), List.forall_mem_cons.mpr ⟨List.mem_cons_of_mem _ (List.mem_append_left _ (List.mem_append_left _ (List.mem_of_getElem? (i := 6) rfl))), List.forall_mem_cons.mpr ⟨List.mem_cons_of_mem _ (List.mem_append_left _ (List.mem_append_left _ (List.mem_of_getElem? (i := 7) rfl))), List.forall_mem_cons.mpr ⟨List.mem_cons_of_mem _ (List.mem_append_left _ (List.mem_append_left _ (List.mem_of_getElem? (i := 8) rfl))), List.forall_mem_cons.mpr ⟨List.mem_cons_of_mem _ (List.mem_append_left _ (List.mem_append_left _ (List.mem_of_getElem? (i := 9) rfl))), List.forall_mem_cons.mpr ⟨List.mem_cons_of_mem _ (List.mem_append_left _ (List.mem_append_left _ (List.mem_of_getElem? (i := 4) rfl))), List.forall_mem_cons.mpr ⟨List.mem_cons_of_mem _ (List.mem_append_left _ (List.mem_append_left _ (List.mem_of_getElem? (i := 10) rfl))), List.forall_mem_cons.mpr ⟨List.mem_cons_of_mem _ (List.mem_append_left _ (List.mem_append_left _ (List.mem_of_getElem? (i := 11) rfl))), List.forall_mem_cons.mpr ⟨List.mem_cons_of_mem _ (List.mem_append_left _ (List.mem_append_left _ (List.mem_of_getElem? (i := 12) rfl))), List.forall_mem_cons.mpr ⟨List.mem_cons_of_mem _ (List.mem_append_left _ (List.mem_append_left _ (List.mem_of_getElem? (i := 13) rfl))), List.forall_mem_cons.mpr ⟨List.mem_cons_of_mem _ (List.mem_append_left _ (List.mem_append_left _ (List.mem_of_getElem? (i := 14) rfl))), List.forall_mem_cons.mpr ⟨List.mem_cons_of_mem _ (List.mem_append_left _ (List.mem_append_left _ (List.mem_of_getElem? (i := 15) rfl))), List.forall_mem_cons.mpr ⟨List.mem_cons_of_mem _ (List.mem_append_left _ (List.mem_append_left _ (List.mem_of_getElem? (i := 16) rfl))), List.forall_mem_cons.mpr ⟨List.mem_cons_of_mem _ (List.mem_append_left _ (List.mem_append_left _ (List.mem_of_getElem? (i := 17) rfl))), List.forall_mem_cons.mpr ⟨List.mem_cons_of_mem _ (List.mem_append_left _ (List.mem_append_left _ (List.mem_of_getElem? (i := 18) rfl))), List.forall_mem_cons.mpr ⟨List.mem_cons_of_mem _ (List.mem_append_left _ (List.mem_append_left _ (List.mem_of_getElem? (i := 19) rfl))), List.forall_mem_cons.mpr ⟨List.mem_cons_of_mem _ (List.mem_append_left _ (List.mem_append_left _ (List.mem_of_getElem? (i := 20) rfl))), List.forall_mem_cons.mpr ⟨List.mem_cons_of_mem _ (List.mem_append_left _ (List.mem_append_left _ (List.mem_of_getElem? (i := 21) rfl))), List.forall_mem_cons.mpr ⟨List.mem_cons_of_mem _ (List.mem_append_left _ (List.mem_append_left _ (List.mem_of_getElem? (i := 22) rfl))), List.forall_mem_cons.mpr ⟨List.mem_cons_of_mem _ (List.mem_append_left _ (List.mem_append_left _ (List.mem_of_getElem? (i := 23) rfl))), List.forall_mem_cons.mpr ⟨List.mem_cons_of_mem _ (List.mem_append_left _ (List.mem_append_right _ (List.mem_of_getElem? (i := 0) rfl))), List.forall_mem_cons.mpr ⟨List.mem_cons_of_mem _ (List.mem_append_left _ (List.mem_append_right _ (List.mem_of_getElem? (i := 1) rfl))), nowords_in⟩⟩⟩⟩⟩⟩⟩⟩⟩⟩⟩⟩⟩⟩⟩⟩⟩⟩⟩⟩⟩⟩, (fun _ h => List.mem_cons_of_mem _ (List.mem_append_right _ (h)))⟩⟩)
set_option maxRecDepth 20000 in
theorem gX0_rightDays_X0_rainDays : GoodIn wsX0_rightDays (wsV RX0 125 RX0 yX0_rainDays wsX0_rainDays) := goodIn_app (goodIn_by gd_X0_rightDays (List.forall_mem_cons.mpr ⟨List.mem_cons_of_mem _ (List.mem_append_left _ (List.mem_append_right _ (List.mem_of_getElem? (i := 2) rfl))), List.forall_mem_cons.mpr ⟨List.mem_cons_of_mem _ (List.mem_append_left _ (List.mem_append_right _ (List.mem_of_getElem? (i := 3) rfl))), List.forall_mem_cons.mpr ⟨List.mem_cons_of_mem _ (List.mem_append_left _ (List.mem_append_right _ (List.mem_of_getElem? (i := 4) rfl))), List.forall_mem_cons.mpr ⟨List.mem_cons_of_mem _ (List.mem_append_left _ (List.mem_append_left _ (List.mem_of_getElem? (i := 4) rfl))), nowords_in⟩⟩⟩⟩)) ggX0_rightDays_X0_rainDays
set_option maxRecDepth 20000 in
theorem ggX0_rightDays_X0_feltWeather : GoodIn wsX0_rightDays wsX0_feltWeather := goodIn_by gd_X0_rightDays (List.forall_mem_cons.mpr ⟨List.mem_cons_of_mem _ (List.mem_append_left _ (List.mem_append_right _ (List.mem_of_getElem? (i := 10) rfl))), List.forall_mem_append.mpr ⟨List.forall_mem_cons.mpr ⟨List.mem_cons_of_mem _ (List.mem_append_left _ (List.mem_append_right _ (List.mem_of_getElem? (i := 11) rfl))), List.forall_mem_cons.mpr ⟨List.mem_cons_of_mem _ (List.mem_append_left _ (List.mem_append_right _ (List.mem_of_getElem? (i := 12) rfl))), List.forall_mem_cons.mpr ⟨List.mem_cons_of_mem _ (List.mem_append_left _ (List.mem_append_right _ (List.mem_of_getElem? (i := 13) rfl))), List.forall_mem_cons.mpr ⟨List.mem_cons_of_mem _ (List.mem_append_left _ (List.mem_append_right _ (List.mem_of_getElem? (i := 14) rfl))), List.forall_mem_cons.mpr ⟨List.mem_cons_of_mem _ (List.mem_append_left _ (List.mem_append_right _ (List.mem_of_getElem? (i := 15) rfl))), List.forall_mem_cons.mpr ⟨List.mem_cons_of_mem _ (List.mem_append_left _ (List.mem_append_left _ (List.mem_of_getElem? (i := 4) rfl))), List.forall_mem_cons.mpr ⟨List.mem_cons_of_mem _ (List.mem_append_left _ (List.mem_append_right _ (List.mem_of_getElem? (i := 16) rfl))), List.forall_mem_cons.mpr ⟨List.mem_cons_of_mem _ (List.mem_append_left _ (List.mem_append_right _ (List.mem_of_getElem? (i := 17) rfl))), nowords_in⟩⟩⟩⟩⟩⟩⟩⟩, (fun _ h => List.mem_cons_of_mem _ (List.mem_append_right _ (h)))⟩⟩)
set_option maxRecDepth 20000 in
theorem gX0_rightDays_X0_feltWeather : GoodIn wsX0_rightDays (wsV RX0 84 RX0 yX0_feltWeather wsX0_feltWeather) := goodIn_app (goodIn_by gd_X0_rightDays (List.forall_mem_cons.mpr ⟨List.mem_cons_of_mem _ (List.mem_append_left _ (List.mem_append_right _ (List.mem_of_getElem? (i := 7) rfl))), List.forall_mem_cons.mpr ⟨List.mem_cons_of_mem _ (List.mem_append_left _ (List.mem_append_right _ (List.mem_of_getElem? (i := 8) rfl))), List.forall_mem_cons.mpr ⟨List.mem_cons_of_mem _ (List.mem_append_left _ (List.mem_append_right _ (List.mem_of_getElem? (i := 9) rfl))), List.forall_mem_cons.mpr ⟨List.mem_cons_of_mem _ (List.mem_append_left _ (List.mem_append_left _ (List.mem_of_getElem? (i := 4) rfl))), nowords_in⟩⟩⟩⟩)) ggX0_rightDays_X0_feltWeather
theorem dX0_rightDays_0 : decode cX0_rightDays 0 = .ok (.aload_n 0, 1) := by decide +kernel
theorem dX0_rightDays_1 : decode cX0_rightDays 1 = .ok (.iload_n 1, 1) := by decide +kernel
theorem dX0_rightDays_2 : decode cX0_rightDays 2 = .ok (.invokevirtual 128, 3) := by decide +kernel
theorem dX0_rightDays_5 : decode cX0_rightDays 5 = .ok (.aload_n 0, 1) := by decide +kernel
theorem dX0_rightDays_6 : decode cX0_rightDays 6 = .ok (.iload_n 1, 1) := by decide +kernel
theorem dX0_rightDays_7 : decode cX0_rightDays 7 = .ok (.invokevirtual 125, 3) := by decide +kernel
theorem dX0_rightDays_10 : decode cX0_rightDays 10 = .ok (.aload_n 0, 1) := by decide +kernel
theorem dX0_rightDays_11 : decode cX0_rightDays 11 = .ok (.iload_n 1, 1) := by decide +kernel
theorem dX0_rightDays_12 : decode cX0_rightDays 12 = .ok (.invokevirtual 84, 3) := by decide +kernel
theorem dX0_rightDays_15 : decode cX0_rightDays 15 = .ok (.lxor, 1) := by decide +kernel
theorem dX0_rightDays_16 : decode cX0_rightDays 16 = .ok (.ldc2_w 116, 3) := by decide +kernel
theorem dX0_rightDays_19 : decode cX0_rightDays 19 = .ok (.lxor, 1) := by decide +kernel
theorem dX0_rightDays_20 : decode cX0_rightDays 20 = .ok (.land, 1) := by decide +kernel
theorem dX0_rightDays_21 : decode cX0_rightDays 21 = .ok (.lreturn, 1) := by decide +kernel
abbrev rmX0_rightDays : Room := { frames := 3, cells := 0, slots := 0, locals := 62 }
set_option maxHeartbeats 4000000 in
set_option maxRecDepth 100000 in
theorem kX0_rightDays (l : Launch) (D : va_G) (cy : Nat → ClassId) (h0 : Nat) (a0 : Nat → Nat) (s0 : Rc) (p1 : Int32) (res : Int64) (h : fX0_rightDays p1 s0 = some res) : CL l D cy yX0_rightDays wsX0_rightDays rmX0_rightDays [.ref h0, .int p1] (flat [WX0 cy h0 a0 s0]) (flat [WX0 cy h0 a0 s0]) res := by
  refine CL.of (cc := cX0_rightDays) (maxL := 2) (by decide) rfl (Nat.le_of_ble_eq_true rfl) ?_
  intro p e s m args below meth c A QQ ls E hr
  obtain ⟨hx, hb, hml, hown, hts, hK, hN, hP, hD, hA, hl⟩ := E
  have hret : ∀ (pc : Nat) (H : Heap) (locs : List Loc) (ls : Array Slot) (u : Int64), u = res → va_P D vwCl (flat [WX0 cy h0 a0 s0]) H → va_D A (flat [WX0 cy h0 a0 s0]) → va_S A s.heap H locs → decode cX0_rightDays pc = .ok (.lreturn, 1) → W p l e rmX0_rightDays s m args below meth c H locs 0 0 QQ (F0 m pc ls [.long u]) := by
    intro pc H locs ls u hu hP hD hS hd; subst hu; exact hr pc H locs ls _ rfl hP hD hS hd
  clear hr
  have hl : lv_has ls 2 [(0, .ref h0), (1, .int p1)] := hl
  unfold fX0_rightDays at h
  suffices key : ∀ (H : Heap) (locs : List Loc), va_P D vwCl (flat [WX0 cy h0 a0 s0]) H → va_S A s.heap H locs → W p l e rmX0_rightDays s m args below meth c H locs 0 0 QQ (F0 m 0 ls []) from key _ _ hP va_S.rf
  clear hP
  intro H locs hP hS
  refine lv_aload_n hx hb dX0_rightDays_0 rfl (lv_at hl 0 rfl) ?_
  refine lv_iload_n hx hb dX0_rightDays_1 rfl (lv_at hl 1 rfl) ?_
  obtain ⟨r1, hr1, h⟩ := bd_elim h
  refine ca_l (w' := [WX0 cy h0 a0 s0]) (rn_V (As := [.int p1]) (rest := []) ⟨hx, hb, hml, hown, hts⟩ (kX0_toldDays l D cy h0 a0 s0 p1 r1 hr1 H.size) (cwV 1 hts gX0_rightDays_X0_toldDays rfl rfl rfl (by decide +kernel) ⟨Nat.le_of_ble_eq_true rfl, Nat.le_of_ble_eq_true rfl⟩) hK hN hP hD [0] rfl rfl (ci := 0) (q0 := 0) rfl rfl rfl rfl hl.1 rfl (Nat.le_of_ble_eq_true rfl) dX0_rightDays_2 ⟨Nat.le_refl 0, Nat.le_refl 0⟩) hP hD hS hA [0] ⟨rfl, rfl, rfl, rfl⟩ (fun H locs hP hD hS => ?_)
  refine lv_aload_n hx hb dX0_rightDays_5 rfl (lv_at hl 0 rfl) ?_
  refine lv_iload_n hx hb dX0_rightDays_6 rfl (lv_at hl 1 rfl) ?_
  obtain ⟨r2, hr2, h⟩ := bd_elim h
  refine ca_l (w' := [WX0 cy h0 a0 s0]) (rn_V (As := [.int p1]) (rest := [.long r1]) ⟨hx, hb, hml, hown, hts⟩ (kX0_rainDays l D cy h0 a0 s0 p1 r2 hr2 H.size) (cwV 1 hts gX0_rightDays_X0_rainDays rfl rfl rfl (by decide +kernel) ⟨Nat.le_of_ble_eq_true rfl, Nat.le_of_ble_eq_true rfl⟩) hK hN hP hD [0] rfl rfl (ci := 0) (q0 := 0) rfl rfl rfl rfl hl.1 rfl (Nat.le_of_ble_eq_true rfl) dX0_rightDays_7 ⟨Nat.le_refl 0, Nat.le_refl 0⟩) hP hD hS hA [0] ⟨rfl, rfl, rfl, rfl⟩ (fun H locs hP hD hS => ?_)
  refine lv_aload_n hx hb dX0_rightDays_10 rfl (lv_at hl 0 rfl) ?_
  refine lv_iload_n hx hb dX0_rightDays_11 rfl (lv_at hl 1 rfl) ?_
  refine ca_l (w' := [WX0 cy h0 a0 s0]) (rn_V (As := [.int p1]) (rest := [.long r2, .long r1]) ⟨hx, hb, hml, hown, hts⟩ (kX0_feltWeather l D cy h0 a0 s0 p1 _ rfl H.size) (cwV 1 hts gX0_rightDays_X0_feltWeather rfl rfl rfl (by decide +kernel) ⟨Nat.le_of_ble_eq_true rfl, Nat.le_of_ble_eq_true rfl⟩) hK hN hP hD [0] rfl rfl (ci := 0) (q0 := 0) rfl rfl rfl rfl hl.1 rfl (Nat.le_of_ble_eq_true rfl) dX0_rightDays_12 ⟨Nat.le_refl 0, Nat.le_refl 0⟩) hP hD hS hA [0] ⟨rfl, rfl, rfl, rfl⟩ (fun H locs hP hD hS => ?_)
  refine lv_lxor hx hb dX0_rightDays_15 ?_
  refine lv_ldc2 (v := -1) hx hb hown (hts (.constantLong RX0 116 (-1)) (List.mem_of_getElem? (i := 1) rfl)) dX0_rightDays_16 ?_
  refine lv_lxor hx hb dX0_rightDays_19 ?_
  refine lv_land hx hb dX0_rightDays_20 ?_
  exact hret 21 H locs ls (r1 &&& ((r2 ^^^ (fX0_feltWeather p1 s0)) ^^^ (-1 : Int64))) (Option.some.inj h) hP hD hS dX0_rightDays_21
theorem gd_X0_mostTrusted : wsX0_mostTrusted.all goodWord = true := by decide +kernel
set_option maxRecDepth 20000 in
theorem ggX0_mostTrusted_X0_rightDays : GoodIn wsX0_mostTrusted wsX0_rightDays := goodIn_by gd_X0_mostTrusted (List.forall_mem_cons.mpr ⟨List.mem_cons_of_mem _ (List.mem_append_left _ (List.mem_append_left _ (List.mem_of_getElem? (i := 5) rfl))), List.forall_mem_append.mpr ⟨List.forall_mem_append.mpr ⟨List.forall_mem_cons.mpr ⟨List.mem_cons_of_mem _ (List.mem_append_left _ (List.mem_append_left _ (List.mem_of_getElem? (i := 6) rfl))), List.forall_mem_cons.mpr ⟨List.mem_cons_of_mem _ (List.mem_append_left _ (List.mem_append_left _ (List.mem_of_getElem? (i := 7) rfl))), List.forall_mem_cons.mpr ⟨List.mem_cons_of_mem _ (List.mem_append_left _ (List.mem_append_left _ (List.mem_of_getElem? (i := 8) rfl))), List.forall_mem_cons.mpr ⟨List.mem_cons_of_mem _ (List.mem_append_left _ (List.mem_append_left _ (List.mem_of_getElem? (i := 9) rfl))), List.forall_mem_cons.mpr ⟨List.mem_cons_of_mem _ (List.mem_append_left _ (List.mem_append_left _ (List.mem_of_getElem? (i := 4) rfl))), List.forall_mem_cons.mpr ⟨List.mem_cons_of_mem _ (List.mem_append_left _ (List.mem_append_left _ (List.mem_of_getElem? (i := 10) rfl))), List.forall_mem_cons.mpr ⟨List.mem_cons_of_mem _ (List.mem_append_left _ (List.mem_append_left _ (List.mem_of_getElem? (i := 11) rfl))), List.forall_mem_cons.mpr ⟨List.mem_cons_of_mem _ (List.mem_append_left _ (List.mem_append_left _ (List.mem_of_getElem? (i := 12) rfl))), List.forall_mem_cons.mpr ⟨List.mem_cons_of_mem _ (List.mem_append_left _ (List.mem_append_left _ (List.mem_of_getElem? (i := 13) rfl))), List.forall_mem_cons.mpr ⟨List.mem_cons_of_mem _ (List.mem_append_left _ (List.mem_append_left _ (List.mem_of_getElem? (i := 14) rfl))), List.forall_mem_cons.mpr ⟨List.mem_cons_of_mem _ (List.mem_append_left _ (List.mem_append_left _ (List.mem_of_getElem? (i := 15) rfl))), List.forall_mem_cons.mpr ⟨List.mem_cons_of_mem _ (List.mem_append_left _ (List.mem_append_left _ (List.mem_of_getElem? (i := 16) rfl))), List.forall_mem_cons.mpr ⟨List.mem_cons_of_mem _ (List.mem_append_left _ (List.mem_append_left _ (List.mem_of_getElem? (i := 17) rfl))), List.forall_mem_cons.mpr ⟨List.mem_cons_of_mem _ (List.mem_append_left _ (List.mem_append_left _ (List.mem_of_getElem? (i := 18) rfl))), List.forall_mem_cons.mpr ⟨List.mem_cons_of_mem _ (List.mem_append_left _ (List.mem_append_left _ (List.mem_of_getElem? (i := 19) rfl))), List.forall_mem_cons.mpr ⟨List.mem_cons_of_mem _ (List.mem_append_left _ (List.mem_append_left _ (List.mem_of_getElem? (i := 20) rfl))), List.forall_mem_cons.mpr ⟨List.mem_cons_of_mem _ (List.mem_append_left _ (List.mem_append_left _ (List.mem_of_getElem? (i := 21) rfl))), List.forall_mem_cons.mpr ⟨List.mem_cons_of_mem _ (List.mem_append_left _ (List.mem_append_left _ (List.mem_of_getElem? (i := 22) rfl))), List.forall_mem_cons.mpr ⟨List.mem_cons_of_mem _ (List.mem_append_left _ (List.mem_append_left _ (List.mem_of_getElem? (i := 23) rfl))), List.forall_mem_cons.mpr ⟨List.mem_cons_of_mem _ (List.mem_append_left _ (List.mem_append_right _ (List.mem_append_left _ (List.mem_of_getElem? (i := 0) rfl)))), List.forall_mem_cons.mpr ⟨List.mem_cons_of_mem _ (List.mem_append_left _ (List.mem_append_right _ (List.mem_append_left _ (List.mem_of_getElem? (i := 1) rfl)))), List.forall_mem_cons.mpr ⟨List.mem_cons_of_mem _ (List.mem_append_left _ (List.mem_append_right _ (List.mem_append_left _ (List.mem_of_getElem? (i := 2) rfl)))), List.forall_mem_cons.mpr ⟨List.mem_cons_of_mem _ (List.mem_append_left _ (List.mem_append_right _ (List.mem_append_left _ (List.mem_of_getElem? (i := 3) rfl)))), List.forall_mem_cons.mpr ⟨List.mem_cons_of_mem _ (List.mem_append_left _ (List.mem_append_right _ (List.mem_append_left _ (List.mem_of_getElem? (i := 4) rfl)))), nowords_in⟩⟩⟩⟩⟩⟩⟩⟩⟩⟩⟩⟩⟩⟩⟩⟩⟩⟩⟩⟩⟩⟩⟩⟩, List.forall_mem_cons.mpr ⟨List.mem_cons_of_mem _ (List.mem_append_left _ (List.mem_append_right _ (List.mem_append_left _ (List.mem_of_getElem? (i := 5) rfl)))), List.forall_mem_cons.mpr ⟨List.mem_cons_of_mem _ (List.mem_append_left _ (List.mem_append_right _ (List.mem_append_left _ (List.mem_of_getElem? (i := 6) rfl)))), List.forall_mem_cons.mpr ⟨List.mem_cons_of_mem _ (List.mem_append_left _ (List.mem_append_right _ (List.mem_append_left _ (List.mem_of_getElem? (i := 7) rfl)))), List.forall_mem_cons.mpr ⟨List.mem_cons_of_mem _ (List.mem_append_left _ (List.mem_append_right _ (List.mem_append_left _ (List.mem_of_getElem? (i := 8) rfl)))), List.forall_mem_cons.mpr ⟨List.mem_cons_of_mem _ (List.mem_append_left _ (List.mem_append_right _ (List.mem_append_left _ (List.mem_of_getElem? (i := 9) rfl)))), List.forall_mem_cons.mpr ⟨List.mem_cons_of_mem _ (List.mem_append_left _ (List.mem_append_right _ (List.mem_append_left _ (List.mem_of_getElem? (i := 10) rfl)))), List.forall_mem_cons.mpr ⟨List.mem_cons_of_mem _ (List.mem_append_left _ (List.mem_append_right _ (List.mem_append_left _ (List.mem_of_getElem? (i := 11) rfl)))), List.forall_mem_cons.mpr ⟨List.mem_cons_of_mem _ (List.mem_append_left _ (List.mem_append_right _ (List.mem_append_left _ (List.mem_of_getElem? (i := 12) rfl)))), List.forall_mem_cons.mpr ⟨List.mem_cons_of_mem _ (List.mem_append_left _ (List.mem_append_right _ (List.mem_append_left _ (List.mem_of_getElem? (i := 13) rfl)))), List.forall_mem_cons.mpr ⟨List.mem_cons_of_mem _ (List.mem_append_left _ (List.mem_append_right _ (List.mem_append_left _ (List.mem_of_getElem? (i := 14) rfl)))), List.forall_mem_cons.mpr ⟨List.mem_cons_of_mem _ (List.mem_append_left _ (List.mem_append_right _ (List.mem_append_left _ (List.mem_of_getElem? (i := 15) rfl)))), List.forall_mem_cons.mpr ⟨List.mem_cons_of_mem _ (List.mem_append_left _ (List.mem_append_right _ (List.mem_append_left _ (List.mem_of_getElem? (i := 16) rfl)))), List.forall_mem_cons.mpr ⟨List.mem_cons_of_mem _ (List.mem_append_left _ (List.mem_append_right _ (List.mem_append_left _ (List.mem_of_getElem? (i := 17) rfl)))), List.forall_mem_cons.mpr ⟨List.mem_cons_of_mem _ (List.mem_append_left _ (List.mem_append_right _ (List.mem_append_left _ (List.mem_of_getElem? (i := 18) rfl)))), List.forall_mem_cons.mpr ⟨List.mem_cons_of_mem _ (List.mem_append_left _ (List.mem_append_right _ (List.mem_append_left _ (List.mem_of_getElem? (i := 19) rfl)))), List.forall_mem_cons.mpr ⟨List.mem_cons_of_mem _ (List.mem_append_left _ (List.mem_append_right _ (List.mem_append_left _ (List.mem_of_getElem? (i := 20) rfl)))), List.forall_mem_cons.mpr ⟨List.mem_cons_of_mem _ (List.mem_append_left _ (List.mem_append_right _ (List.mem_append_left _ (List.mem_of_getElem? (i := 21) rfl)))), List.forall_mem_cons.mpr ⟨List.mem_cons_of_mem _ (List.mem_append_left _ (List.mem_append_right _ (List.mem_append_left _ (List.mem_of_getElem? (i := 22) rfl)))), nowords_in⟩⟩⟩⟩⟩⟩⟩⟩⟩⟩⟩⟩⟩⟩⟩⟩⟩⟩⟩, (fun _ h => List.mem_cons_of_mem _ (List.mem_append_right _ (h)))⟩⟩)
set_option maxRecDepth 20000 in
theorem gX0_mostTrusted_X0_rightDays : GoodIn wsX0_mostTrusted (wsV RX0 159 RX0 yX0_rightDays wsX0_rightDays) := goodIn_app (goodIn_by gd_X0_mostTrusted (List.forall_mem_cons.mpr ⟨List.mem_cons_of_mem _ (List.mem_append_left _ (List.mem_append_left _ (List.mem_of_getElem? (i := 1) rfl))), List.forall_mem_cons.mpr ⟨List.mem_cons_of_mem _ (List.mem_append_left _ (List.mem_append_left _ (List.mem_of_getElem? (i := 2) rfl))), List.forall_mem_cons.mpr ⟨List.mem_cons_of_mem _ (List.mem_append_left _ (List.mem_append_left _ (List.mem_of_getElem? (i := 3) rfl))), List.forall_mem_cons.mpr ⟨List.mem_cons_of_mem _ (List.mem_append_left _ (List.mem_append_left _ (List.mem_of_getElem? (i := 4) rfl))), nowords_in⟩⟩⟩⟩)) ggX0_mostTrusted_X0_rightDays
set_option maxRecDepth 20000 in
theorem ggX0_mostTrusted_J13_bitCount_95d88 : GoodIn wsX0_mostTrusted wsJ13_bitCount_95d88 := goodIn_by gd_X0_mostTrusted (List.forall_mem_cons.mpr ⟨List.mem_cons_of_mem _ (List.mem_append_left _ (List.mem_append_right _ (List.mem_append_right _ (List.mem_of_getElem? (i := 2) rfl)))), List.forall_mem_cons.mpr ⟨List.mem_cons_of_mem _ (List.mem_append_left _ (List.mem_append_right _ (List.mem_append_right _ (List.mem_of_getElem? (i := 3) rfl)))), List.forall_mem_cons.mpr ⟨List.mem_cons_of_mem _ (List.mem_append_left _ (List.mem_append_right _ (List.mem_append_right _ (List.mem_of_getElem? (i := 4) rfl)))), List.forall_mem_cons.mpr ⟨List.mem_cons_of_mem _ (List.mem_append_left _ (List.mem_append_right _ (List.mem_append_right _ (List.mem_of_getElem? (i := 5) rfl)))), nowords_in⟩⟩⟩⟩)
set_option maxRecDepth 20000 in
theorem gX0_mostTrusted_J13_bitCount_95d88 : GoodIn wsX0_mostTrusted (va_wsS RX0 103 yJ13_bitCount_95d88 wsJ13_bitCount_95d88) := goodIn_app (goodIn_by gd_X0_mostTrusted (List.forall_mem_cons.mpr ⟨List.mem_cons_of_mem _ (List.mem_append_left _ (List.mem_append_right _ (List.mem_append_left _ (List.mem_of_getElem? (i := 23) rfl)))), List.forall_mem_cons.mpr ⟨List.mem_cons_of_mem _ (List.mem_append_left _ (List.mem_append_right _ (List.mem_append_right _ (List.mem_of_getElem? (i := 0) rfl)))), List.forall_mem_cons.mpr ⟨List.mem_cons_of_mem _ (List.mem_append_left _ (List.mem_append_right _ (List.mem_append_right _ (List.mem_of_getElem? (i := 1) rfl)))), nowords_in⟩⟩⟩)) ggX0_mostTrusted_J13_bitCount_95d88
set_option maxRecDepth 20000 in
theorem ggX0_mostTrusted_X0_toldDays : GoodIn wsX0_mostTrusted wsX0_toldDays := goodIn_by gd_X0_mostTrusted (List.forall_mem_cons.mpr ⟨List.mem_cons_of_mem _ (List.mem_append_left _ (List.mem_append_left _ (List.mem_of_getElem? (i := 10) rfl))), List.forall_mem_append.mpr ⟨List.forall_mem_cons.mpr ⟨List.mem_cons_of_mem _ (List.mem_append_left _ (List.mem_append_left _ (List.mem_of_getElem? (i := 11) rfl))), List.forall_mem_cons.mpr ⟨List.mem_cons_of_mem _ (List.mem_append_left _ (List.mem_append_left _ (List.mem_of_getElem? (i := 12) rfl))), List.forall_mem_cons.mpr ⟨List.mem_cons_of_mem _ (List.mem_append_left _ (List.mem_append_left _ (List.mem_of_getElem? (i := 13) rfl))), List.forall_mem_cons.mpr ⟨List.mem_cons_of_mem _ (List.mem_append_left _ (List.mem_append_left _ (List.mem_of_getElem? (i := 14) rfl))), List.forall_mem_cons.mpr ⟨List.mem_cons_of_mem _ (List.mem_append_left _ (List.mem_append_left _ (List.mem_of_getElem? (i := 4) rfl))), List.forall_mem_cons.mpr ⟨List.mem_cons_of_mem _ (List.mem_append_left _ (List.mem_append_left _ (List.mem_of_getElem? (i := 15) rfl))), List.forall_mem_cons.mpr ⟨List.mem_cons_of_mem _ (List.mem_append_left _ (List.mem_append_left _ (List.mem_of_getElem? (i := 16) rfl))), List.forall_mem_cons.mpr ⟨List.mem_cons_of_mem _ (List.mem_append_left _ (List.mem_append_left _ (List.mem_of_getElem? (i := 17) rfl))), List.forall_mem_cons.mpr ⟨List.mem_cons_of_mem _ (List.mem_append_left _ (List.mem_append_left _ (List.mem_of_getElem? (i := 18) rfl))), List.forall_mem_cons.mpr ⟨List.mem_cons_of_mem _ (List.mem_append_left _ (List.mem_append_left _ (List.mem_of_getElem? (i := 19) rfl))), List.forall_mem_cons.mpr ⟨List.mem_cons_of_mem _ (List.mem_append_left _ (List.mem_append_left _ (List.mem_of_getElem? (i := 20) rfl))), List.forall_mem_cons.mpr ⟨List.mem_cons_of_mem _ (List.mem_append_left _ (List.mem_append_left _ (List.mem_of_getElem? (i := 21) rfl))), List.forall_mem_cons.mpr ⟨List.mem_cons_of_mem _ (List.mem_append_left _ (List.mem_append_left _ (List.mem_of_getElem? (i := 22) rfl))), List.forall_mem_cons.mpr ⟨List.mem_cons_of_mem _ (List.mem_append_left _ (List.mem_append_left _ (List.mem_of_getElem? (i := 23) rfl))), List.forall_mem_cons.mpr ⟨List.mem_cons_of_mem _ (List.mem_append_left _ (List.mem_append_right _ (List.mem_append_left _ (List.mem_of_getElem? (i := 0) rfl)))), List.forall_mem_cons.mpr ⟨List.mem_cons_of_mem _ (List.mem_append_left _ (List.mem_append_right _ (List.mem_append_left _ (List.mem_of_getElem? (i := 1) rfl)))), List.forall_mem_cons.mpr ⟨List.mem_cons_of_mem _ (List.mem_append_left _ (List.mem_append_right _ (List.mem_append_left _ (List.mem_of_getElem? (i := 2) rfl)))), List.forall_mem_cons.mpr ⟨List.mem_cons_of_mem _ (List.mem_append_left _ (List.mem_append_right _ (List.mem_append_left _ (List.mem_of_getElem? (i := 3) rfl)))), List.forall_mem_cons.mpr ⟨List.mem_cons_of_mem _ (List.mem_append_left _ (List.mem_append_right _ (List.mem_append_left _ (List.mem_of_getElem? (i := 4) rfl)))), List.forall_mem_cons.mpr ⟨List.mem_cons_of_mem _ (List.mem_append_left _ (List.mem_append_right _ (List.mem_append_left _ (List.mem_of_getElem? (i := 5) rfl)))), List.forall_mem_cons.mpr ⟨List.mem_cons_of_mem _ (List.mem_append_left _ (List.mem_append_right _ (List.mem_append_left _ (List.mem_of_getElem? (i := 6) rfl)))), nowords_in⟩⟩⟩⟩⟩⟩⟩⟩⟩⟩⟩⟩⟩⟩⟩⟩⟩⟩⟩⟩⟩, (fun _ h => List.mem_cons_of_mem _ (List.mem_append_right _ (h)))⟩⟩)
set_option maxRecDepth 20000 in
theorem gX0_mostTrusted_X0_toldDays : GoodIn wsX0_mostTrusted (wsV RX0 128 RX0 yX0_toldDays wsX0_toldDays) := goodIn_app (goodIn_by gd_X0_mostTrusted (List.forall_mem_cons.mpr ⟨List.mem_cons_of_mem _ (List.mem_append_left _ (List.mem_append_left _ (List.mem_of_getElem? (i := 7) rfl))), List.forall_mem_cons.mpr ⟨List.mem_cons_of_mem _ (List.mem_append_left _ (List.mem_append_left _ (List.mem_of_getElem? (i := 8) rfl))), List.forall_mem_cons.mpr ⟨List.mem_cons_of_mem _ (List.mem_append_left _ (List.mem_append_left _ (List.mem_of_getElem? (i := 9) rfl))), List.forall_mem_cons.mpr ⟨List.mem_cons_of_mem _ (List.mem_append_left _ (List.mem_append_left _ (List.mem_of_getElem? (i := 4) rfl))), nowords_in⟩⟩⟩⟩)) ggX0_mostTrusted_X0_toldDays
theorem dX0_mostTrusted_0 : decode cX0_mostTrusted 0 = .ok (.iconst (-1), 1) := by decide +kernel
theorem dX0_mostTrusted_1 : decode cX0_mostTrusted 1 = .ok (.istore_n 1, 1) := by decide +kernel
theorem dX0_mostTrusted_2 : decode cX0_mostTrusted 2 = .ok (.iconst 0, 1) := by decide +kernel
theorem dX0_mostTrusted_3 : decode cX0_mostTrusted 3 = .ok (.istore_n 2, 1) := by decide +kernel
theorem dX0_mostTrusted_4 : decode cX0_mostTrusted 4 = .ok (.iconst 1, 1) := by decide +kernel
theorem dX0_mostTrusted_5 : decode cX0_mostTrusted 5 = .ok (.istore_n 3, 1) := by decide +kernel
theorem dX0_mostTrusted_6 : decode cX0_mostTrusted 6 = .ok (.iconst 0, 1) := by decide +kernel
theorem dX0_mostTrusted_7 : decode cX0_mostTrusted 7 = .ok (.istore 4, 2) := by decide +kernel
theorem dX0_mostTrusted_9 : decode cX0_mostTrusted 9 = .ok (.iload 4, 2) := by decide +kernel
theorem dX0_mostTrusted_11 : decode cX0_mostTrusted 11 = .ok (.aload_n 0, 1) := by decide +kernel
theorem dX0_mostTrusted_12 : decode cX0_mostTrusted 12 = .ok (.getfield 37, 3) := by decide +kernel
theorem dX0_mostTrusted_15 : decode cX0_mostTrusted 15 = .ok (.if_icmp .ge 61, 3) := by decide +kernel
theorem dX0_mostTrusted_18 : decode cX0_mostTrusted 18 = .ok (.aload_n 0, 1) := by decide +kernel
theorem dX0_mostTrusted_19 : decode cX0_mostTrusted 19 = .ok (.iload 4, 2) := by decide +kernel
theorem dX0_mostTrusted_21 : decode cX0_mostTrusted 21 = .ok (.invokevirtual 159, 3) := by decide +kernel
theorem dX0_mostTrusted_24 : decode cX0_mostTrusted 24 = .ok (.invokestatic 103, 3) := by decide +kernel
theorem dX0_mostTrusted_27 : decode cX0_mostTrusted 27 = .ok (.istore 5, 2) := by decide +kernel
theorem dX0_mostTrusted_29 : decode cX0_mostTrusted 29 = .ok (.aload_n 0, 1) := by decide +kernel
theorem dX0_mostTrusted_30 : decode cX0_mostTrusted 30 = .ok (.iload 4, 2) := by decide +kernel
theorem dX0_mostTrusted_32 : decode cX0_mostTrusted 32 = .ok (.invokevirtual 128, 3) := by decide +kernel
theorem dX0_mostTrusted_35 : decode cX0_mostTrusted 35 = .ok (.invokestatic 103, 3) := by decide +kernel
theorem dX0_mostTrusted_38 : decode cX0_mostTrusted 38 = .ok (.istore 6, 2) := by decide +kernel
theorem dX0_mostTrusted_40 : decode cX0_mostTrusted 40 = .ok (.iload 6, 2) := by decide +kernel
theorem dX0_mostTrusted_42 : decode cX0_mostTrusted 42 = .ok (.ifCond .le 28, 3) := by decide +kernel
theorem dX0_mostTrusted_45 : decode cX0_mostTrusted 45 = .ok (.iload_n 1, 1) := by decide +kernel
theorem dX0_mostTrusted_46 : decode cX0_mostTrusted 46 = .ok (.iconst (-1), 1) := by decide +kernel
theorem dX0_mostTrusted_47 : decode cX0_mostTrusted 47 = .ok (.if_icmp .eq 14, 3) := by decide +kernel
theorem dX0_mostTrusted_50 : decode cX0_mostTrusted 50 = .ok (.iload 5, 2) := by decide +kernel
theorem dX0_mostTrusted_52 : decode cX0_mostTrusted 52 = .ok (.iload_n 3, 1) := by decide +kernel
theorem dX0_mostTrusted_53 : decode cX0_mostTrusted 53 = .ok (.imul, 1) := by decide +kernel
theorem dX0_mostTrusted_54 : decode cX0_mostTrusted 54 = .ok (.iload_n 2, 1) := by decide +kernel
theorem dX0_mostTrusted_55 : decode cX0_mostTrusted 55 = .ok (.iload 6, 2) := by decide +kernel
theorem dX0_mostTrusted_57 : decode cX0_mostTrusted 57 = .ok (.imul, 1) := by decide +kernel
theorem dX0_mostTrusted_58 : decode cX0_mostTrusted 58 = .ok (.if_icmp .le 12, 3) := by decide +kernel
theorem dX0_mostTrusted_61 : decode cX0_mostTrusted 61 = .ok (.iload 4, 2) := by decide +kernel
theorem dX0_mostTrusted_63 : decode cX0_mostTrusted 63 = .ok (.istore_n 1, 1) := by decide +kernel
theorem dX0_mostTrusted_64 : decode cX0_mostTrusted 64 = .ok (.iload 5, 2) := by decide +kernel
theorem dX0_mostTrusted_66 : decode cX0_mostTrusted 66 = .ok (.istore_n 2, 1) := by decide +kernel
theorem dX0_mostTrusted_67 : decode cX0_mostTrusted 67 = .ok (.iload 6, 2) := by decide +kernel
theorem dX0_mostTrusted_69 : decode cX0_mostTrusted 69 = .ok (.istore_n 3, 1) := by decide +kernel
theorem dX0_mostTrusted_70 : decode cX0_mostTrusted 70 = .ok (.iinc 4 1, 3) := by decide +kernel
theorem dX0_mostTrusted_73 : decode cX0_mostTrusted 73 = .ok (.goto (-64), 3) := by decide +kernel
theorem dX0_mostTrusted_76 : decode cX0_mostTrusted 76 = .ok (.iload_n 1, 1) := by decide +kernel
theorem dX0_mostTrusted_77 : decode cX0_mostTrusted 77 = .ok (.ireturn, 1) := by decide +kernel
abbrev rmX0_mostTrusted : Room := { frames := 4, cells := 0, slots := 0, locals := 83 }
set_option maxHeartbeats 4000000 in
set_option maxRecDepth 100000 in
theorem kX0_mostTrusted (l : Launch) (D : va_G) (cy : Nat → ClassId) (h0 : Nat) (a0 : Nat → Nat) (s0 : Rc) (res : Int32) (h : fX0_mostTrusted s0 = some res) : CI l D cy yX0_mostTrusted wsX0_mostTrusted rmX0_mostTrusted [.ref h0] (flat [WX0 cy h0 a0 s0]) (flat [WX0 cy h0 a0 s0]) res := by
  refine CI.of (cc := cX0_mostTrusted) (maxL := 7) (by decide) rfl (Nat.le_of_ble_eq_true rfl) ?_
  intro p e s m args below meth c A QQ ls E hr
  obtain ⟨hx, hb, hml, hown, hts, hK, hN, hP, hD, hA, hl⟩ := E
  have hret : ∀ (pc : Nat) (H : Heap) (locs : List Loc) (ls : Array Slot) (u : Int32), u = res → va_P D vwCl (flat [WX0 cy h0 a0 s0]) H → va_D A (flat [WX0 cy h0 a0 s0]) → va_S A s.heap H locs → decode cX0_mostTrusted pc = .ok (.ireturn, 1) → W p l e rmX0_mostTrusted s m args below meth c H locs 0 0 QQ (F0 m pc ls [.int u]) := by
    intro pc H locs ls u hu hP hD hS hd; subst hu; exact hr pc H locs ls _ rfl hP hD hS hd
  clear hr
  have hl : lv_has ls 7 [(0, .ref h0)] := hl
  have hinX0 : ∀ w ∈ wsX00, w ∈ wsX0_mostTrusted := fun _ h => List.mem_cons_of_mem _ (List.mem_append_right _ h)
  unfold fX0_mostTrusted at h
  suffices key : ∀ (H : Heap) (locs : List Loc), va_P D vwCl (flat [WX0 cy h0 a0 s0]) H → va_S A s.heap H locs → W p l e rmX0_mostTrusted s m args below meth c H locs 0 0 QQ (F0 m 0 ls []) from key _ _ hP va_S.rf
  clear hP
  intro H locs hP hS
  refine lv_iconst (v := -1) hx hb dX0_mostTrusted_0 (by decide) ?_
  refine lv_istore_n (lv' := [(1, .int (-1 : Int32)), (0, .ref h0)]) hx hb dX0_mostTrusted_1 rfl hl (by decide) rfl (fun ls hl => ?_)
  refine lv_iconst (v := 0) hx hb dX0_mostTrusted_2 (by decide) ?_
  refine lv_istore_n (lv' := [(2, .int (0 : Int32)), (1, .int (-1 : Int32)), (0, .ref h0)]) hx hb dX0_mostTrusted_3 rfl hl (by decide) rfl (fun ls hl => ?_)
  refine lv_iconst (v := 1) hx hb dX0_mostTrusted_4 (by decide) ?_
  refine lv_istore_n (lv' := [(3, .int (1 : Int32)), (2, .int (0 : Int32)), (1, .int (-1 : Int32)), (0, .ref h0)]) hx hb dX0_mostTrusted_5 rfl hl (by decide) rfl (fun ls hl => ?_)
  refine lv_iconst (v := 0) hx hb dX0_mostTrusted_6 (by decide) ?_
  refine lv_istore (lv' := [(4, .int (0 : Int32)), (3, .int (1 : Int32)), (2, .int (0 : Int32)), (1, .int (-1 : Int32)), (0, .ref h0)]) hx hb dX0_mostTrusted_7 hl (by decide) rfl (fun ls hl => ?_)
  have L9 : ∀ (n : Nat) (q9 : Int32 × Int32 × Int32 × Int32) (o : Int32), loopO (fX0_mostTrusted_L9 s0) n q9 = some o → ∀ (H : Heap) (locs : List Loc) (ls : Array Slot), lv_has ls 7 [(0, .ref h0), (1, .int q9.1), (2, .int q9.2.1), (3, .int q9.2.2.1), (4, .int q9.2.2.2)] → va_P D vwCl (flat [WX0 cy h0 a0 s0]) H → va_D A (flat [WX0 cy h0 a0 s0]) → va_S A s.heap H locs → ∀ (kk76 : ∀ (H : Heap) (locs : List Loc) (ls : Array Slot), lv_has ls 7 [(1, .int o)] → va_P D vwCl (flat [WX0 cy h0 a0 s0]) H → va_D A (flat [WX0 cy h0 a0 s0]) → va_S A s.heap H locs → W p l e rmX0_mostTrusted s m args below meth c H locs 0 0 QQ (F0 m 76 ls [])), W p l e rmX0_mostTrusted s m args below meth c H locs 0 0 QQ (F0 m 9 ls []) := by
    intro n
    induction n with
    | zero => intro q9 o h; exact absurd h (by rw [loopO_zero]; intro z; cases z)
    | succ n ih =>
      intro q9 o h H locs ls hl hP hD hS kk76
      obtain ⟨w, h, hgo, hst⟩ := loopO_elim h
      unfold fX0_mostTrusted_L9 at h
      refine lv_iload hx hb dX0_mostTrusted_9 (lv_at hl 4 rfl) ?_
      refine lv_aload_n hx hb dX0_mostTrusted_11 rfl (lv_at hl 0 rfl) ?_
      refine va_get (D := D) (ci := 0) (v := .int (gi s0 8)) (C := RX0) (T := TX0) (N := 14) hx hb hts hinX0 hown hK hP 0 rfl rfl 8 (by decide) (hts (.fieldLink RX0 37 "KneeBench$Bench" "farmers" "I") (List.mem_of_getElem? (i := 1) rfl)) (fun _ h9 => h9) rfl dX0_mostTrusted_12 ?_
      refine lv_icmp_ge (tgt := 76) hx hb dX0_mostTrusted_15 (by decide) (fun c1 => ?_) (fun c1 => ?_)
      · replace h := (if_pos c1).symm.trans h
        have eo := hst _ (Option.some.inj h).symm
        subst eo
        exact kk76 H locs ls (lv_sub hl [1] rfl) hP hD hS
      · replace h := (if_neg c1).symm.trans h
        refine lv_aload_n hx hb dX0_mostTrusted_18 rfl (lv_at hl 0 rfl) ?_
        refine lv_iload hx hb dX0_mostTrusted_19 (lv_at hl 4 rfl) ?_
        obtain ⟨r2, hr2, h⟩ := bd_elim h
        refine ca_l (w' := [WX0 cy h0 a0 s0]) (rn_V (As := [.int q9.2.2.2]) (rest := []) ⟨hx, hb, hml, hown, hts⟩ (kX0_rightDays l D cy h0 a0 s0 q9.2.2.2 r2 hr2 H.size) (cwV 1 hts gX0_mostTrusted_X0_rightDays rfl rfl rfl (by decide +kernel) ⟨Nat.le_of_ble_eq_true rfl, Nat.le_of_ble_eq_true rfl⟩) hK hN hP hD [0] rfl rfl (ci := 0) (q0 := 0) rfl rfl rfl rfl hl.1 rfl (Nat.le_of_ble_eq_true rfl) dX0_mostTrusted_21 ⟨Nat.le_refl 0, Nat.le_refl 0⟩) hP hD hS hA [0] ⟨rfl, rfl, rfl, rfl⟩ (fun H locs hP hD hS => ?_)
        refine ca_i (w' := [WX0 cy h0 a0 s0]) (rn_S (As := [.long r2]) (rest := []) ⟨hx, hb, hml, hown, hts⟩ (kJ13_bitCount_95d88 l D cy r2 _ rfl H.size) (va_cwS 1 hts gX0_mostTrusted_J13_bitCount_95d88 rfl rfl rfl (by decide +kernel) ⟨Nat.le_of_ble_eq_true rfl, Nat.le_of_ble_eq_true rfl⟩) hK hN hP hD [] rfl rfl rfl hl.1 rfl (Nat.le_of_ble_eq_true rfl) dX0_mostTrusted_24 ⟨Nat.le_refl 0, Nat.le_refl 0⟩) hP hD hS hA [] ⟨rfl, rfl, rfl, rfl⟩ (fun H locs hP hD hS => ?_)
        refine lv_topi (fun x3 ex3 => ?_)
        replace h := lt_use h x3 ex3
        refine lv_istore (lv' := [(5, .int x3), (0, .ref h0), (1, .int q9.1), (2, .int q9.2.1), (3, .int q9.2.2.1), (4, .int q9.2.2.2)]) hx hb dX0_mostTrusted_27 hl (by decide) rfl (fun ls hl => ?_)
        refine lv_aload_n hx hb dX0_mostTrusted_29 rfl (lv_at hl 1 rfl) ?_
        refine lv_iload hx hb dX0_mostTrusted_30 (lv_at hl 5 rfl) ?_
        obtain ⟨r4, hr4, h⟩ := bd_elim h
        refine ca_l (w' := [WX0 cy h0 a0 s0]) (rn_V (As := [.int q9.2.2.2]) (rest := []) ⟨hx, hb, hml, hown, hts⟩ (kX0_toldDays l D cy h0 a0 s0 q9.2.2.2 r4 hr4 H.size) (cwV 1 hts gX0_mostTrusted_X0_toldDays rfl rfl rfl (by decide +kernel) ⟨Nat.le_of_ble_eq_true rfl, Nat.le_of_ble_eq_true rfl⟩) hK hN hP hD [0] rfl rfl (ci := 0) (q0 := 0) rfl rfl rfl rfl hl.1 rfl (Nat.le_of_ble_eq_true rfl) dX0_mostTrusted_32 ⟨Nat.le_refl 0, Nat.le_refl 0⟩) hP hD hS hA [0] ⟨rfl, rfl, rfl, rfl⟩ (fun H locs hP hD hS => ?_)
        refine ca_i (w' := [WX0 cy h0 a0 s0]) (rn_S (As := [.long r4]) (rest := []) ⟨hx, hb, hml, hown, hts⟩ (kJ13_bitCount_95d88 l D cy r4 _ rfl H.size) (va_cwS 1 hts gX0_mostTrusted_J13_bitCount_95d88 rfl rfl rfl (by decide +kernel) ⟨Nat.le_of_ble_eq_true rfl, Nat.le_of_ble_eq_true rfl⟩) hK hN hP hD [] rfl rfl rfl hl.1 rfl (Nat.le_of_ble_eq_true rfl) dX0_mostTrusted_35 ⟨Nat.le_refl 0, Nat.le_refl 0⟩) hP hD hS hA [] ⟨rfl, rfl, rfl, rfl⟩ (fun H locs hP hD hS => ?_)
        refine lv_topi (fun x5 ex5 => ?_)
        replace h := lt_use h x5 ex5
        refine lv_istore (lv' := [(6, .int x5), (5, .int x3), (0, .ref h0), (1, .int q9.1), (2, .int q9.2.1), (3, .int q9.2.2.1), (4, .int q9.2.2.2)]) hx hb dX0_mostTrusted_38 hl (by decide) rfl (fun ls hl => ?_)
        refine lv_iload hx hb dX0_mostTrusted_40 (lv_at hl 0 rfl) ?_
        refine lv_if_le (tgt := 70) hx hb dX0_mostTrusted_42 (by decide) (fun c6 => ?_) (fun c6 => ?_)
        · replace h := (if_pos c6).symm.trans h
          refine lv_iinc (v := (q9.2.2.2 + (1 : Int32))) (lv' := [(4, .int (q9.2.2.2 + (1 : Int32))), (6, .int x5), (5, .int x3), (0, .ref h0), (1, .int q9.1), (2, .int q9.2.1), (3, .int q9.2.2.1)]) hx hb dX0_mostTrusted_70 hl (k := 6) rfl rfl (by decide) rfl (fun ls hl => ?_)
          refine lv_goto (tgt := 9) hx hb dX0_mostTrusted_73 (by decide) ?_
          exact ih _ o (hgo _ (Option.some.inj h).symm) H locs ls (lv_sub hl [3, 4, 5, 6, 0] rfl) hP hD hS kk76
        · replace h := (if_neg c6).symm.trans h
          refine lv_iload_n hx hb dX0_mostTrusted_45 rfl (lv_at hl 3 rfl) ?_
          refine lv_iconst (v := -1) hx hb dX0_mostTrusted_46 (by decide) ?_
          refine lv_icmp_eq (tgt := 61) hx hb dX0_mostTrusted_47 (by decide) (fun c7 => ?_) (fun c7 => ?_)
          · replace h := (if_pos c7).symm.trans h
            refine lv_iload hx hb dX0_mostTrusted_61 (lv_at hl 6 rfl) ?_
            refine lv_istore_n (lv' := [(1, .int q9.2.2.2), (6, .int x5), (5, .int x3), (0, .ref h0), (2, .int q9.2.1), (3, .int q9.2.2.1), (4, .int q9.2.2.2)]) hx hb dX0_mostTrusted_63 rfl hl (by decide) rfl (fun ls hl => ?_)
            refine lv_iload hx hb dX0_mostTrusted_64 (lv_at hl 2 rfl) ?_
            refine lv_istore_n (lv' := [(2, .int x3), (1, .int q9.2.2.2), (6, .int x5), (5, .int x3), (0, .ref h0), (3, .int q9.2.2.1), (4, .int q9.2.2.2)]) hx hb dX0_mostTrusted_66 rfl hl (by decide) rfl (fun ls hl => ?_)
            refine lv_iload hx hb dX0_mostTrusted_67 (lv_at hl 2 rfl) ?_
            refine lv_istore_n (lv' := [(3, .int x5), (2, .int x3), (1, .int q9.2.2.2), (6, .int x5), (5, .int x3), (0, .ref h0), (4, .int q9.2.2.2)]) hx hb dX0_mostTrusted_69 rfl hl (by decide) rfl (fun ls hl => ?_)
            refine lv_iinc (v := (q9.2.2.2 + (1 : Int32))) (lv' := [(4, .int (q9.2.2.2 + (1 : Int32))), (3, .int x5), (2, .int x3), (1, .int q9.2.2.2), (6, .int x5), (5, .int x3), (0, .ref h0)]) hx hb dX0_mostTrusted_70 hl (k := 6) rfl rfl (by decide) rfl (fun ls hl => ?_)
            refine lv_goto (tgt := 9) hx hb dX0_mostTrusted_73 (by decide) ?_
            exact ih _ o (hgo _ (Option.some.inj h).symm) H locs ls (lv_sub hl [6, 3, 2, 1, 0] rfl) hP hD hS kk76
          · replace h := (if_neg c7).symm.trans h
            refine lv_iload hx hb dX0_mostTrusted_50 (lv_at hl 1 rfl) ?_
            refine lv_iload_n hx hb dX0_mostTrusted_52 rfl (lv_at hl 5 rfl) ?_
            refine lv_imul hx hb dX0_mostTrusted_53 ?_
            refine lv_iload_n hx hb dX0_mostTrusted_54 rfl (lv_at hl 4 rfl) ?_
            refine lv_iload hx hb dX0_mostTrusted_55 (lv_at hl 0 rfl) ?_
            refine lv_imul hx hb dX0_mostTrusted_57 ?_
            refine lv_icmp_le (tgt := 70) hx hb dX0_mostTrusted_58 (by decide) (fun c8 => ?_) (fun c8 => ?_)
            · replace h := (if_pos c8).symm.trans h
              refine lv_iinc (v := (q9.2.2.2 + (1 : Int32))) (lv' := [(4, .int (q9.2.2.2 + (1 : Int32))), (6, .int x5), (5, .int x3), (0, .ref h0), (1, .int q9.1), (2, .int q9.2.1), (3, .int q9.2.2.1)]) hx hb dX0_mostTrusted_70 hl (k := 6) rfl rfl (by decide) rfl (fun ls hl => ?_)
              refine lv_goto (tgt := 9) hx hb dX0_mostTrusted_73 (by decide) ?_
              exact ih _ o (hgo _ (Option.some.inj h).symm) H locs ls (lv_sub hl [3, 4, 5, 6, 0] rfl) hP hD hS kk76
            · replace h := (if_neg c8).symm.trans h
              refine lv_iload hx hb dX0_mostTrusted_61 (lv_at hl 6 rfl) ?_
              refine lv_istore_n (lv' := [(1, .int q9.2.2.2), (6, .int x5), (5, .int x3), (0, .ref h0), (2, .int q9.2.1), (3, .int q9.2.2.1), (4, .int q9.2.2.2)]) hx hb dX0_mostTrusted_63 rfl hl (by decide) rfl (fun ls hl => ?_)
              refine lv_iload hx hb dX0_mostTrusted_64 (lv_at hl 2 rfl) ?_
              refine lv_istore_n (lv' := [(2, .int x3), (1, .int q9.2.2.2), (6, .int x5), (5, .int x3), (0, .ref h0), (3, .int q9.2.2.1), (4, .int q9.2.2.2)]) hx hb dX0_mostTrusted_66 rfl hl (by decide) rfl (fun ls hl => ?_)
              refine lv_iload hx hb dX0_mostTrusted_67 (lv_at hl 2 rfl) ?_
              refine lv_istore_n (lv' := [(3, .int x5), (2, .int x3), (1, .int q9.2.2.2), (6, .int x5), (5, .int x3), (0, .ref h0), (4, .int q9.2.2.2)]) hx hb dX0_mostTrusted_69 rfl hl (by decide) rfl (fun ls hl => ?_)
              refine lv_iinc (v := (q9.2.2.2 + (1 : Int32))) (lv' := [(4, .int (q9.2.2.2 + (1 : Int32))), (3, .int x5), (2, .int x3), (1, .int q9.2.2.2), (6, .int x5), (5, .int x3), (0, .ref h0)]) hx hb dX0_mostTrusted_70 hl (k := 6) rfl rfl (by decide) rfl (fun ls hl => ?_)
              refine lv_goto (tgt := 9) hx hb dX0_mostTrusted_73 (by decide) ?_
              exact ih _ o (hgo _ (Option.some.inj h).symm) H locs ls (lv_sub hl [6, 3, 2, 1, 0] rfl) hP hD hS kk76
  obtain ⟨o9, ho9, h⟩ := bd_elim h
  obtain ⟨n9, hn9⟩ := loopF_some ho9
  refine L9 n9 _ o9 hn9 H locs ls (lv_sub hl [4, 3, 2, 1, 0] rfl) hP hD hS (fun H locs ls hl hP hD hS => ?_)
  refine lv_iload_n hx hb dX0_mostTrusted_76 rfl (lv_at hl 0 rfl) ?_
  exact hret 77 H locs ls o9 (Option.some.inj h) hP hD hS dX0_mostTrusted_77
theorem gd_X0_rainShare : wsX0_rainShare.all goodWord = true := by decide +kernel
set_option maxRecDepth 20000 in
theorem ggX0_rainShare_X0_likelihood : GoodIn wsX0_rainShare wsX0_likelihood := goodIn_by gd_X0_rainShare (List.forall_mem_cons.mpr ⟨List.mem_cons_of_mem _ (List.mem_append_left _ (List.mem_append_left _ (List.mem_of_getElem? (i := 4) rfl))), List.forall_mem_append.mpr ⟨List.forall_mem_append.mpr ⟨List.forall_mem_cons.mpr ⟨List.mem_cons_of_mem _ (List.mem_append_left _ (List.mem_append_left _ (List.mem_of_getElem? (i := 5) rfl))), List.forall_mem_cons.mpr ⟨List.mem_cons_of_mem _ (List.mem_append_left _ (List.mem_append_left _ (List.mem_of_getElem? (i := 6) rfl))), List.forall_mem_cons.mpr ⟨List.mem_cons_of_mem _ (List.mem_append_left _ (List.mem_append_left _ (List.mem_of_getElem? (i := 7) rfl))), List.forall_mem_cons.mpr ⟨List.mem_cons_of_mem _ (List.mem_append_left _ (List.mem_append_left _ (List.mem_of_getElem? (i := 8) rfl))), List.forall_mem_cons.mpr ⟨List.mem_cons_of_mem _ (List.mem_append_left _ (List.mem_append_left _ (List.mem_of_getElem? (i := 9) rfl))), List.forall_mem_cons.mpr ⟨List.mem_cons_of_mem _ (List.mem_append_left _ (List.mem_append_left _ (List.mem_of_getElem? (i := 10) rfl))), List.forall_mem_cons.mpr ⟨List.mem_cons_of_mem _ (List.mem_append_left _ (List.mem_append_left _ (List.mem_of_getElem? (i := 3) rfl))), List.forall_mem_cons.mpr ⟨List.mem_cons_of_mem _ (List.mem_append_left _ (List.mem_append_left _ (List.mem_of_getElem? (i := 11) rfl))), List.forall_mem_cons.mpr ⟨List.mem_cons_of_mem _ (List.mem_append_left _ (List.mem_append_left _ (List.mem_of_getElem? (i := 12) rfl))), List.forall_mem_cons.mpr ⟨List.mem_cons_of_mem _ (List.mem_append_left _ (List.mem_append_left _ (List.mem_of_getElem? (i := 13) rfl))), List.forall_mem_cons.mpr ⟨List.mem_cons_of_mem _ (List.mem_append_left _ (List.mem_append_left _ (List.mem_of_getElem? (i := 14) rfl))), List.forall_mem_cons.mpr ⟨List.mem_cons_of_mem _ (List.mem_append_left _ (List.mem_append_left _ (List.mem_of_getElem? (i := 15) rfl))), List.forall_mem_cons.mpr ⟨List.mem_cons_of_mem _ (List.mem_append_left _ (List.mem_append_left _ (List.mem_of_getElem? (i := 16) rfl))), List.forall_mem_cons.mpr ⟨List.mem_cons_of_mem _ (List.mem_append_left _ (List.mem_append_left _ (List.mem_of_getElem? (i := 17) rfl))), List.forall_mem_cons.mpr ⟨List.mem_cons_of_mem _ (List.mem_append_left _ (List.mem_append_left _ (List.mem_of_getElem? (i := 18) rfl))), List.forall_mem_cons.mpr ⟨List.mem_cons_of_mem _ (List.mem_append_left _ (List.mem_append_left _ (List.mem_of_getElem? (i := 19) rfl))), List.forall_mem_cons.mpr ⟨List.mem_cons_of_mem _ (List.mem_append_left _ (List.mem_append_left _ (List.mem_of_getElem? (i := 20) rfl))), List.forall_mem_cons.mpr ⟨List.mem_cons_of_mem _ (List.mem_append_left _ (List.mem_append_left _ (List.mem_of_getElem? (i := 21) rfl))), List.forall_mem_cons.mpr ⟨List.mem_cons_of_mem _ (List.mem_append_left _ (List.mem_append_left _ (List.mem_of_getElem? (i := 22) rfl))), List.forall_mem_cons.mpr ⟨List.mem_cons_of_mem _ (List.mem_append_left _ (List.mem_append_left _ (List.mem_of_getElem? (i := 23) rfl))), List.forall_mem_cons.mpr ⟨List.mem_cons_of_mem _ (List.mem_append_left _ (List.mem_append_right _ (List.mem_of_getElem? (i := 0) rfl))), List.forall_mem_cons.mpr ⟨List.mem_cons_of_mem _ (List.mem_append_left _ (List.mem_append_right _ (List.mem_of_getElem? (i := 1) rfl))), List.forall_mem_cons.mpr ⟨List.mem_cons_of_mem _ (List.mem_append_left _ (List.mem_append_right _ (List.mem_of_getElem? (i := 2) rfl))), List.forall_mem_cons.mpr ⟨List.mem_cons_of_mem _ (List.mem_append_left _ (List.mem_append_right _ (List.mem_of_getElem? (i := 3) rfl))), nowords_in⟩⟩⟩⟩⟩⟩⟩⟩⟩⟩⟩⟩⟩⟩⟩⟩⟩⟩⟩⟩⟩⟩⟩⟩, List.forall_mem_cons.mpr ⟨List.mem_cons_of_mem _ (List.mem_append_left _ (List.mem_append_right _ (List.mem_of_getElem? (i := 4) rfl))), nowords_in⟩⟩, (fun _ h => List.mem_cons_of_mem _ (List.mem_append_right _ (h)))⟩⟩)
set_option maxRecDepth 20000 in
theorem gX0_rainShare_X0_likelihood : GoodIn wsX0_rainShare (wsV RX0 162 RX0 yX0_likelihood wsX0_likelihood) := goodIn_app (goodIn_by gd_X0_rainShare (List.forall_mem_cons.mpr ⟨List.mem_cons_of_mem _ (List.mem_append_left _ (List.mem_append_left _ (List.mem_of_getElem? (i := 0) rfl))), List.forall_mem_cons.mpr ⟨List.mem_cons_of_mem _ (List.mem_append_left _ (List.mem_append_left _ (List.mem_of_getElem? (i := 1) rfl))), List.forall_mem_cons.mpr ⟨List.mem_cons_of_mem _ (List.mem_append_left _ (List.mem_append_left _ (List.mem_of_getElem? (i := 2) rfl))), List.forall_mem_cons.mpr ⟨List.mem_cons_of_mem _ (List.mem_append_left _ (List.mem_append_left _ (List.mem_of_getElem? (i := 3) rfl))), nowords_in⟩⟩⟩⟩)) ggX0_rainShare_X0_likelihood
theorem dX0_rainShare_0 : decode cX0_rainShare 0 = .ok (.iload_n 2, 1) := by decide +kernel
theorem dX0_rainShare_1 : decode cX0_rainShare 1 = .ok (.i2l, 1) := by decide +kernel
theorem dX0_rainShare_2 : decode cX0_rainShare 2 = .ok (.aload_n 0, 1) := by decide +kernel
theorem dX0_rainShare_3 : decode cX0_rainShare 3 = .ok (.iload_n 1, 1) := by decide +kernel
theorem dX0_rainShare_4 : decode cX0_rainShare 4 = .ok (.iconst 1, 1) := by decide +kernel
theorem dX0_rainShare_5 : decode cX0_rainShare 5 = .ok (.invokevirtual 162, 3) := by decide +kernel
theorem dX0_rainShare_8 : decode cX0_rainShare 8 = .ok (.lmul, 1) := by decide +kernel
theorem dX0_rainShare_9 : decode cX0_rainShare 9 = .ok (.lreturn, 1) := by decide +kernel
abbrev rmX0_rainShare : Room := { frames := 3, cells := 0, slots := 0, locals := 71 }
set_option maxHeartbeats 4000000 in
set_option maxRecDepth 100000 in
theorem kX0_rainShare (l : Launch) (D : va_G) (cy : Nat → ClassId) (h0 : Nat) (a0 : Nat → Nat) (s0 : Rc) (p1 : Int32) (p2 : Int32) (res : Int64) (h : fX0_rainShare p1 p2 s0 = some res) : CL l D cy yX0_rainShare wsX0_rainShare rmX0_rainShare [.ref h0, .int p1, .int p2] (flat [WX0 cy h0 a0 s0]) (flat [WX0 cy h0 a0 s0]) res := by
  refine CL.of (cc := cX0_rainShare) (maxL := 3) (by decide) rfl (Nat.le_of_ble_eq_true rfl) ?_
  intro p e s m args below meth c A QQ ls E hr
  obtain ⟨hx, hb, hml, hown, hts, hK, hN, hP, hD, hA, hl⟩ := E
  have hret : ∀ (pc : Nat) (H : Heap) (locs : List Loc) (ls : Array Slot) (u : Int64), u = res → va_P D vwCl (flat [WX0 cy h0 a0 s0]) H → va_D A (flat [WX0 cy h0 a0 s0]) → va_S A s.heap H locs → decode cX0_rainShare pc = .ok (.lreturn, 1) → W p l e rmX0_rainShare s m args below meth c H locs 0 0 QQ (F0 m pc ls [.long u]) := by
    intro pc H locs ls u hu hP hD hS hd; subst hu; exact hr pc H locs ls _ rfl hP hD hS hd
  clear hr
  have hl : lv_has ls 3 [(0, .ref h0), (1, .int p1), (2, .int p2)] := hl
  unfold fX0_rainShare at h
  suffices key : ∀ (H : Heap) (locs : List Loc), va_P D vwCl (flat [WX0 cy h0 a0 s0]) H → va_S A s.heap H locs → W p l e rmX0_rainShare s m args below meth c H locs 0 0 QQ (F0 m 0 ls []) from key _ _ hP va_S.rf
  clear hP
  intro H locs hP hS
  refine lv_iload_n hx hb dX0_rainShare_0 rfl (lv_at hl 2 rfl) ?_
  refine lv_i2l hx hb dX0_rainShare_1 rfl ?_
  refine lv_aload_n hx hb dX0_rainShare_2 rfl (lv_at hl 0 rfl) ?_
  refine lv_iload_n hx hb dX0_rainShare_3 rfl (lv_at hl 1 rfl) ?_
  refine lv_iconst (v := 1) hx hb dX0_rainShare_4 (by decide) ?_
  obtain ⟨r1, hr1, h⟩ := bd_elim h
  refine ca_l (w' := [WX0 cy h0 a0 s0]) (rn_V (As := [.int p1, .int (1 : Int32)]) (rest := [.long p2.toInt64]) ⟨hx, hb, hml, hown, hts⟩ (kX0_likelihood l D cy h0 a0 s0 p1 (1 : Int32) r1 hr1 H.size) (cwV 2 hts gX0_rainShare_X0_likelihood rfl rfl rfl (by decide +kernel) ⟨Nat.le_of_ble_eq_true rfl, Nat.le_of_ble_eq_true rfl⟩) hK hN hP hD [0] rfl rfl (ci := 0) (q0 := 0) rfl rfl rfl rfl hl.1 rfl (Nat.le_of_ble_eq_true rfl) dX0_rainShare_5 ⟨Nat.le_refl 0, Nat.le_refl 0⟩) hP hD hS hA [0] ⟨rfl, rfl, rfl, rfl⟩ (fun H locs hP hD hS => ?_)
  refine lv_lmul hx hb dX0_rainShare_8 ?_
  exact hret 9 H locs ls (p2.toInt64 * r1) (Option.some.inj h) hP hD hS dX0_rainShare_9
theorem dX0_setDislike_0 : decode cX0_setDislike 0 = .ok (.aload_n 0, 1) := by decide +kernel
theorem dX0_setDislike_1 : decode cX0_setDislike 1 = .ok (.getfield 34, 3) := by decide +kernel
theorem dX0_setDislike_4 : decode cX0_setDislike 4 = .ok (.iload_n 1, 1) := by decide +kernel
theorem dX0_setDislike_5 : decode cX0_setDislike 5 = .ok (.bipush 8, 2) := by decide +kernel
theorem dX0_setDislike_7 : decode cX0_setDislike 7 = .ok (.imul, 1) := by decide +kernel
theorem dX0_setDislike_8 : decode cX0_setDislike 8 = .ok (.iload_n 2, 1) := by decide +kernel
theorem dX0_setDislike_9 : decode cX0_setDislike 9 = .ok (.iadd, 1) := by decide +kernel
theorem dX0_setDislike_10 : decode cX0_setDislike 10 = .ok (.iload_n 3, 1) := by decide +kernel
theorem dX0_setDislike_11 : decode cX0_setDislike 11 = .ok (.iastore, 1) := by decide +kernel
theorem dX0_setDislike_12 : decode cX0_setDislike 12 = .ok (.aload_n 0, 1) := by decide +kernel
theorem dX0_setDislike_13 : decode cX0_setDislike 13 = .ok (.getfield 34, 3) := by decide +kernel
theorem dX0_setDislike_16 : decode cX0_setDislike 16 = .ok (.iload_n 2, 1) := by decide +kernel
theorem dX0_setDislike_17 : decode cX0_setDislike 17 = .ok (.bipush 8, 2) := by decide +kernel
theorem dX0_setDislike_19 : decode cX0_setDislike 19 = .ok (.imul, 1) := by decide +kernel
theorem dX0_setDislike_20 : decode cX0_setDislike 20 = .ok (.iload_n 1, 1) := by decide +kernel
theorem dX0_setDislike_21 : decode cX0_setDislike 21 = .ok (.iadd, 1) := by decide +kernel
theorem dX0_setDislike_22 : decode cX0_setDislike 22 = .ok (.iload_n 3, 1) := by decide +kernel
theorem dX0_setDislike_23 : decode cX0_setDislike 23 = .ok (.iastore, 1) := by decide +kernel
theorem dX0_setDislike_24 : decode cX0_setDislike 24 = .ok (.return_, 1) := by decide +kernel
abbrev rmX0_setDislike : Room := { frames := 0, cells := 0, slots := 0, locals := 0 }
set_option maxHeartbeats 4000000 in
set_option maxRecDepth 100000 in
theorem kX0_setDislike (l : Launch) (D : va_G) (cy : Nat → ClassId) (h0 : Nat) (a0 : Nat → Nat) (s0 : Rc) (p1 : Int32) (p2 : Int32) (p3 : Int32) (res : Rc) (h : fX0_setDislike p1 p2 p3 s0 = some res) : CV l D cy yX0_setDislike wsX0_setDislike rmX0_setDislike [.ref h0, .int p1, .int p2, .int p3] (flat [WX0 cy h0 a0 s0]) (flat [WX0 cy h0 a0 res]) := by
  refine CV.of (cc := cX0_setDislike) (maxL := 4) (by decide) rfl (Nat.le_of_ble_eq_true rfl) ?_
  intro p e s m args below meth c A QQ ls E hr
  obtain ⟨hx, hb, hml, hown, hts, hK, hN, hP, hD, hA, hl⟩ := E
  have hret : ∀ (pc : Nat) (H : Heap) (locs : List Loc) (ls : Array Slot) (u : Rc), u = res → va_P D vwCl (flat [WX0 cy h0 a0 u]) H → va_D A (flat [WX0 cy h0 a0 u]) → va_S A s.heap H locs → decode cX0_setDislike pc = .ok (.return_, 1) → W p l e rmX0_setDislike s m args below meth c H locs 0 0 QQ (F0 m pc ls []) := by
    intro pc H locs ls u hu hP hD hS hd; subst hu; exact hr pc H locs ls hP hD hS hd
  clear hr
  have hl : lv_has ls 4 [(0, .ref h0), (1, .int p1), (2, .int p2), (3, .int p3)] := hl
  have hinX0 : ∀ w ∈ wsX00, w ∈ wsX0_setDislike := fun _ h => List.mem_cons_of_mem _ (List.mem_append_right _ h)
  unfold fX0_setDislike at h
  suffices key : ∀ (H : Heap) (locs : List Loc), va_P D vwCl (flat [WX0 cy h0 a0 s0]) H → va_S A s.heap H locs → W p l e rmX0_setDislike s m args below meth c H locs 0 0 QQ (F0 m 0 ls []) from key _ _ hP va_S.rf
  clear hP
  intro H locs hP hS
  refine lv_aload_n hx hb dX0_setDislike_0 rfl (lv_at hl 0 rfl) ?_
  refine va_get (D := D) (ci := 0) (v := .ref (a0 7)) (C := RX0) (T := TX0) (N := 14) hx hb hts hinX0 hown hK hP 0 rfl rfl 7 (by decide) (hts (.fieldLink RX0 34 "KneeBench$Bench" "grudges" "[I") (List.mem_of_getElem? (i := 1) rfl)) (fun _ h9 => h9) rfl dX0_setDislike_1 ?_
  refine lv_iload_n hx hb dX0_setDislike_4 rfl (lv_at hl 1 rfl) ?_
  refine lv_bipush (v := 8) hx hb dX0_setDislike_5 (by decide) ?_
  refine lv_imul hx hb dX0_setDislike_7 ?_
  refine lv_iload_n hx hb dX0_setDislike_8 rfl (lv_at hl 2 rfl) ?_
  refine lv_iadd hx hb dX0_setDislike_9 ?_
  refine lv_iload_n hx hb dX0_setDislike_10 rfl (lv_at hl 3 rfl) ?_
  obtain ⟨g1, h⟩ := gd_elim h
  obtain ⟨s0_2, es, h⟩ := lt_elim h
  refine va_iast hx hb hK hP hD hS 8 1 rfl rfl (inb_in g1) dX0_setDislike_11 (fun H locs hP hD hS => ?_)
  have hP : va_P D vwCl (flat [WX0 cy h0 a0 s0_2]) H := by rw [es]; exact hP
  have hD : va_D A (flat [WX0 cy h0 a0 s0_2]) := by rw [es]; exact hD
  clear es
  refine lv_aload_n hx hb dX0_setDislike_12 rfl (lv_at hl 0 rfl) ?_
  refine va_get (D := D) (ci := 0) (v := .ref (a0 7)) (C := RX0) (T := TX0) (N := 14) hx hb hts hinX0 hown hK hP 0 rfl rfl 7 (by decide) (hts (.fieldLink RX0 34 "KneeBench$Bench" "grudges" "[I") (List.mem_of_getElem? (i := 1) rfl)) (fun _ h9 => h9) rfl dX0_setDislike_13 ?_
  refine lv_iload_n hx hb dX0_setDislike_16 rfl (lv_at hl 2 rfl) ?_
  refine lv_bipush (v := 8) hx hb dX0_setDislike_17 (by decide) ?_
  refine lv_imul hx hb dX0_setDislike_19 ?_
  refine lv_iload_n hx hb dX0_setDislike_20 rfl (lv_at hl 1 rfl) ?_
  refine lv_iadd hx hb dX0_setDislike_21 ?_
  refine lv_iload_n hx hb dX0_setDislike_22 rfl (lv_at hl 3 rfl) ?_
  obtain ⟨g3, h⟩ := gd_elim h
  obtain ⟨s0_4, es, h⟩ := lt_elim h
  refine va_iast hx hb hK hP hD hS 8 1 rfl rfl (inb_in g3) dX0_setDislike_23 (fun H locs hP hD hS => ?_)
  have hP : va_P D vwCl (flat [WX0 cy h0 a0 s0_4]) H := by rw [es]; exact hP
  have hD : va_D A (flat [WX0 cy h0 a0 s0_4]) := by rw [es]; exact hD
  clear es
  exact hret 24 H locs ls s0_4 (Option.some.inj h) hP hD hS dX0_setDislike_24
theorem gd_X0_setFalse : wsX0_setFalse.all goodWord = true := by decide +kernel
set_option maxRecDepth 20000 in
theorem ggX0_setFalse_X0_hasFarmer : GoodIn wsX0_setFalse wsX0_hasFarmer := goodIn_by gd_X0_setFalse (List.forall_mem_cons.mpr ⟨List.mem_cons_of_mem _ (List.mem_append_left _ (List.mem_of_getElem? (i := 5) rfl)), List.forall_mem_append.mpr ⟨List.forall_mem_cons.mpr ⟨List.mem_cons_of_mem _ (List.mem_append_left _ (List.mem_of_getElem? (i := 6) rfl)), nowords_in⟩, (fun _ h => List.mem_cons_of_mem _ (List.mem_append_right _ (h)))⟩⟩)
set_option maxRecDepth 20000 in
theorem gX0_setFalse_X0_hasFarmer : GoodIn wsX0_setFalse (wsV RX0 94 RX0 yX0_hasFarmer wsX0_hasFarmer) := goodIn_app (goodIn_by gd_X0_setFalse (List.forall_mem_cons.mpr ⟨List.mem_cons_of_mem _ (List.mem_append_left _ (List.mem_of_getElem? (i := 1) rfl)), List.forall_mem_cons.mpr ⟨List.mem_cons_of_mem _ (List.mem_append_left _ (List.mem_of_getElem? (i := 2) rfl)), List.forall_mem_cons.mpr ⟨List.mem_cons_of_mem _ (List.mem_append_left _ (List.mem_of_getElem? (i := 3) rfl)), List.forall_mem_cons.mpr ⟨List.mem_cons_of_mem _ (List.mem_append_left _ (List.mem_of_getElem? (i := 4) rfl)), nowords_in⟩⟩⟩⟩)) ggX0_setFalse_X0_hasFarmer
theorem dX0_setFalse_0 : decode cX0_setFalse 0 = .ok (.aload_n 0, 1) := by decide +kernel
theorem dX0_setFalse_1 : decode cX0_setFalse 1 = .ok (.iload_n 1, 1) := by decide +kernel
theorem dX0_setFalse_2 : decode cX0_setFalse 2 = .ok (.invokevirtual 94, 3) := by decide +kernel
theorem dX0_setFalse_5 : decode cX0_setFalse 5 = .ok (.ifCond .eq 10, 3) := by decide +kernel
theorem dX0_setFalse_8 : decode cX0_setFalse 8 = .ok (.aload_n 0, 1) := by decide +kernel
theorem dX0_setFalse_9 : decode cX0_setFalse 9 = .ok (.getfield 22, 3) := by decide +kernel
theorem dX0_setFalse_12 : decode cX0_setFalse 12 = .ok (.iload_n 1, 1) := by decide +kernel
theorem dX0_setFalse_13 : decode cX0_setFalse 13 = .ok (.iload_n 2, 1) := by decide +kernel
theorem dX0_setFalse_14 : decode cX0_setFalse 14 = .ok (.iastore, 1) := by decide +kernel
theorem dX0_setFalse_15 : decode cX0_setFalse 15 = .ok (.return_, 1) := by decide +kernel
abbrev rmX0_setFalse : Room := { frames := 1, cells := 0, slots := 0, locals := 21 }
set_option maxHeartbeats 4000000 in
set_option maxRecDepth 100000 in
theorem kX0_setFalse (l : Launch) (D : va_G) (cy : Nat → ClassId) (h0 : Nat) (a0 : Nat → Nat) (s0 : Rc) (p1 : Int32) (p2 : Int32) (res : Rc) (h : fX0_setFalse p1 p2 s0 = some res) : CV l D cy yX0_setFalse wsX0_setFalse rmX0_setFalse [.ref h0, .int p1, .int p2] (flat [WX0 cy h0 a0 s0]) (flat [WX0 cy h0 a0 res]) := by
  refine CV.of (cc := cX0_setFalse) (maxL := 3) (by decide) rfl (Nat.le_of_ble_eq_true rfl) ?_
  intro p e s m args below meth c A QQ ls E hr
  obtain ⟨hx, hb, hml, hown, hts, hK, hN, hP, hD, hA, hl⟩ := E
  have hret : ∀ (pc : Nat) (H : Heap) (locs : List Loc) (ls : Array Slot) (u : Rc), u = res → va_P D vwCl (flat [WX0 cy h0 a0 u]) H → va_D A (flat [WX0 cy h0 a0 u]) → va_S A s.heap H locs → decode cX0_setFalse pc = .ok (.return_, 1) → W p l e rmX0_setFalse s m args below meth c H locs 0 0 QQ (F0 m pc ls []) := by
    intro pc H locs ls u hu hP hD hS hd; subst hu; exact hr pc H locs ls hP hD hS hd
  clear hr
  have hl : lv_has ls 3 [(0, .ref h0), (1, .int p1), (2, .int p2)] := hl
  have hinX0 : ∀ w ∈ wsX00, w ∈ wsX0_setFalse := fun _ h => List.mem_cons_of_mem _ (List.mem_append_right _ h)
  unfold fX0_setFalse at h
  suffices key : ∀ (H : Heap) (locs : List Loc), va_P D vwCl (flat [WX0 cy h0 a0 s0]) H → va_S A s.heap H locs → W p l e rmX0_setFalse s m args below meth c H locs 0 0 QQ (F0 m 0 ls []) from key _ _ hP va_S.rf
  clear hP
  intro H locs hP hS
  refine lv_aload_n hx hb dX0_setFalse_0 rfl (lv_at hl 0 rfl) ?_
  refine lv_iload_n hx hb dX0_setFalse_1 rfl (lv_at hl 1 rfl) ?_
  refine ca_z (w' := [WX0 cy h0 a0 s0]) (rn_V (As := [.int p1]) (rest := []) ⟨hx, hb, hml, hown, hts⟩ (kX0_hasFarmer l D cy h0 a0 s0 p1 _ rfl H.size) (cwV 1 hts gX0_setFalse_X0_hasFarmer rfl rfl rfl (by decide +kernel) ⟨Nat.le_of_ble_eq_true rfl, Nat.le_of_ble_eq_true rfl⟩) hK hN hP hD [0] rfl rfl (ci := 0) (q0 := 0) rfl rfl rfl rfl hl.1 rfl (Nat.le_of_ble_eq_true rfl) dX0_setFalse_2 ⟨Nat.le_refl 0, Nat.le_refl 0⟩) hP hD hS hA [0] ⟨rfl, rfl, rfl, rfl⟩ (fun b1 H locs hP hD hS => ?_)
  refine lv_if_eq (tgt := 15) hx hb dX0_setFalse_5 (by decide) (fun c2 => ?_) (fun c2 => ?_)
  · replace h := (if_pos c2).symm.trans h
    exact hret 15 H locs ls s0 (Option.some.inj h) hP hD hS dX0_setFalse_15
  · replace h := (if_neg c2).symm.trans h
    refine lv_aload_n hx hb dX0_setFalse_8 rfl (lv_at hl 0 rfl) ?_
    refine va_get (D := D) (ci := 0) (v := .ref (a0 3)) (C := RX0) (T := TX0) (N := 14) hx hb hts hinX0 hown hK hP 0 rfl rfl 3 (by decide) (hts (.fieldLink RX0 22 "KneeBench$Bench" "falses" "[I") (List.mem_of_getElem? (i := 1) rfl)) (fun _ h9 => h9) rfl dX0_setFalse_9 ?_
    refine lv_iload_n hx hb dX0_setFalse_12 rfl (lv_at hl 1 rfl) ?_
    refine lv_iload_n hx hb dX0_setFalse_13 rfl (lv_at hl 2 rfl) ?_
    obtain ⟨g3, h⟩ := gd_elim h
    obtain ⟨s0_4, es, h⟩ := lt_elim h
    refine va_iast hx hb hK hP hD hS 4 1 rfl rfl (inb_in g3) dX0_setFalse_14 (fun H locs hP hD hS => ?_)
    have hP : va_P D vwCl (flat [WX0 cy h0 a0 s0_4]) H := by rw [es]; exact hP
    have hD : va_D A (flat [WX0 cy h0 a0 s0_4]) := by rw [es]; exact hD
    clear es
    exact hret 15 H locs ls s0_4 (Option.some.inj h) hP hD hS dX0_setFalse_15
theorem gd_X0_settle : wsX0_settle.all goodWord = true := by decide +kernel
set_option maxRecDepth 20000 in
theorem ggX0_settle_X0_dueDays : GoodIn wsX0_settle wsX0_dueDays := goodIn_by gd_X0_settle (List.forall_mem_cons.mpr ⟨List.mem_cons_of_mem _ (List.mem_append_left _ (List.mem_append_left _ (List.mem_of_getElem? (i := 7) rfl))), List.forall_mem_append.mpr ⟨List.forall_mem_append.mpr ⟨List.forall_mem_cons.mpr ⟨List.mem_cons_of_mem _ (List.mem_append_left _ (List.mem_append_left _ (List.mem_of_getElem? (i := 8) rfl))), List.forall_mem_cons.mpr ⟨List.mem_cons_of_mem _ (List.mem_append_left _ (List.mem_append_left _ (List.mem_of_getElem? (i := 9) rfl))), List.forall_mem_cons.mpr ⟨List.mem_cons_of_mem _ (List.mem_append_left _ (List.mem_append_left _ (List.mem_of_getElem? (i := 10) rfl))), List.forall_mem_cons.mpr ⟨List.mem_cons_of_mem _ (List.mem_append_left _ (List.mem_append_left _ (List.mem_of_getElem? (i := 11) rfl))), List.forall_mem_cons.mpr ⟨List.mem_cons_of_mem _ (List.mem_append_left _ (List.mem_append_left _ (List.mem_of_getElem? (i := 6) rfl))), List.forall_mem_cons.mpr ⟨List.mem_cons_of_mem _ (List.mem_append_left _ (List.mem_append_left _ (List.mem_of_getElem? (i := 12) rfl))), List.forall_mem_cons.mpr ⟨List.mem_cons_of_mem _ (List.mem_append_left _ (List.mem_append_left _ (List.mem_of_getElem? (i := 13) rfl))), List.forall_mem_cons.mpr ⟨List.mem_cons_of_mem _ (List.mem_append_left _ (List.mem_append_left _ (List.mem_of_getElem? (i := 14) rfl))), List.forall_mem_cons.mpr ⟨List.mem_cons_of_mem _ (List.mem_append_left _ (List.mem_append_left _ (List.mem_of_getElem? (i := 15) rfl))), List.forall_mem_cons.mpr ⟨List.mem_cons_of_mem _ (List.mem_append_left _ (List.mem_append_left _ (List.mem_of_getElem? (i := 16) rfl))), List.forall_mem_cons.mpr ⟨List.mem_cons_of_mem _ (List.mem_append_left _ (List.mem_append_left _ (List.mem_of_getElem? (i := 17) rfl))), List.forall_mem_cons.mpr ⟨List.mem_cons_of_mem _ (List.mem_append_left _ (List.mem_append_left _ (List.mem_of_getElem? (i := 18) rfl))), List.forall_mem_cons.mpr ⟨List.mem_cons_of_mem _ (List.mem_append_left _ (List.mem_append_left _ (List.mem_of_getElem? (i := 19) rfl))), List.forall_mem_cons.mpr ⟨List.mem_cons_of_mem _ (List.mem_append_left _ (List.mem_append_left _ (List.mem_of_getElem? (i := 20) rfl))), List.forall_mem_cons.mpr ⟨List.mem_cons_of_mem _ (List.mem_append_left _ (List.mem_append_left _ (List.mem_of_getElem? (i := 21) rfl))), List.forall_mem_cons.mpr ⟨List.mem_cons_of_mem _ (List.mem_append_left _ (List.mem_append_left _ (List.mem_of_getElem? (i := 22) rfl))), List.forall_mem_cons.mpr ⟨List.mem_cons_of_mem _ (List.mem_append_left _ (List.mem_append_left _ (List.mem_of_getElem? (i := 23) rfl))), List.forall_mem_cons.mpr ⟨List.mem_cons_of_mem _ (List.mem_append_left _ (List.mem_append_right _ (List.mem_of_getElem? (i := 0) rfl))), List.forall_mem_cons.mpr ⟨List.mem_cons_of_mem _ (List.mem_append_left _ (List.mem_append_right _ (List.mem_of_getElem? (i := 1) rfl))), List.forall_mem_cons.mpr ⟨List.mem_cons_of_mem _ (List.mem_append_left _ (List.mem_append_right _ (List.mem_of_getElem? (i := 2) rfl))), List.forall_mem_cons.mpr ⟨List.mem_cons_of_mem _ (List.mem_append_left _ (List.mem_append_right _ (List.mem_of_getElem? (i := 3) rfl))), List.forall_mem_cons.mpr ⟨List.mem_cons_of_mem _ (List.mem_append_left _ (List.mem_append_right _ (List.mem_of_getElem? (i := 4) rfl))), List.forall_mem_cons.mpr ⟨List.mem_cons_of_mem _ (List.mem_append_left _ (List.mem_append_right _ (List.mem_of_getElem? (i := 5) rfl))), List.forall_mem_cons.mpr ⟨List.mem_cons_of_mem _ (List.mem_append_left _ (List.mem_append_right _ (List.mem_of_getElem? (i := 6) rfl))), nowords_in⟩⟩⟩⟩⟩⟩⟩⟩⟩⟩⟩⟩⟩⟩⟩⟩⟩⟩⟩⟩⟩⟩⟩⟩, List.forall_mem_cons.mpr ⟨List.mem_cons_of_mem _ (List.mem_append_left _ (List.mem_append_right _ (List.mem_of_getElem? (i := 7) rfl))), List.forall_mem_cons.mpr ⟨List.mem_cons_of_mem _ (List.mem_append_left _ (List.mem_append_right _ (List.mem_of_getElem? (i := 8) rfl))), List.forall_mem_cons.mpr ⟨List.mem_cons_of_mem _ (List.mem_append_left _ (List.mem_append_right _ (List.mem_of_getElem? (i := 9) rfl))), List.forall_mem_cons.mpr ⟨List.mem_cons_of_mem _ (List.mem_append_left _ (List.mem_append_right _ (List.mem_of_getElem? (i := 10) rfl))), nowords_in⟩⟩⟩⟩⟩, (fun _ h => List.mem_cons_of_mem _ (List.mem_append_right _ (h)))⟩⟩)
set_option maxRecDepth 20000 in
theorem gX0_settle_X0_dueDays : GoodIn wsX0_settle (wsV RX0 63 RX0 yX0_dueDays wsX0_dueDays) := goodIn_app (goodIn_by gd_X0_settle (List.forall_mem_cons.mpr ⟨List.mem_cons_of_mem _ (List.mem_append_left _ (List.mem_append_left _ (List.mem_of_getElem? (i := 3) rfl))), List.forall_mem_cons.mpr ⟨List.mem_cons_of_mem _ (List.mem_append_left _ (List.mem_append_left _ (List.mem_of_getElem? (i := 4) rfl))), List.forall_mem_cons.mpr ⟨List.mem_cons_of_mem _ (List.mem_append_left _ (List.mem_append_left _ (List.mem_of_getElem? (i := 5) rfl))), List.forall_mem_cons.mpr ⟨List.mem_cons_of_mem _ (List.mem_append_left _ (List.mem_append_left _ (List.mem_of_getElem? (i := 6) rfl))), nowords_in⟩⟩⟩⟩)) ggX0_settle_X0_dueDays
theorem dX0_settle_0 : decode cX0_settle 0 = .ok (.iconst 0, 1) := by decide +kernel
theorem dX0_settle_1 : decode cX0_settle 1 = .ok (.istore_n 1, 1) := by decide +kernel
theorem dX0_settle_2 : decode cX0_settle 2 = .ok (.iload_n 1, 1) := by decide +kernel
theorem dX0_settle_3 : decode cX0_settle 3 = .ok (.aload_n 0, 1) := by decide +kernel
theorem dX0_settle_4 : decode cX0_settle 4 = .ok (.getfield 37, 3) := by decide +kernel
theorem dX0_settle_7 : decode cX0_settle 7 = .ok (.if_icmp .ge 28, 3) := by decide +kernel
theorem dX0_settle_10 : decode cX0_settle 10 = .ok (.aload_n 0, 1) := by decide +kernel
theorem dX0_settle_11 : decode cX0_settle 11 = .ok (.getfield 28, 3) := by decide +kernel
theorem dX0_settle_14 : decode cX0_settle 14 = .ok (.iload_n 1, 1) := by decide +kernel
theorem dX0_settle_15 : decode cX0_settle 15 = .ok (.bipush 64, 2) := by decide +kernel
theorem dX0_settle_17 : decode cX0_settle 17 = .ok (.iastore, 1) := by decide +kernel
theorem dX0_settle_18 : decode cX0_settle 18 = .ok (.aload_n 0, 1) := by decide +kernel
theorem dX0_settle_19 : decode cX0_settle 19 = .ok (.getfield 31, 3) := by decide +kernel
theorem dX0_settle_22 : decode cX0_settle 22 = .ok (.iload_n 1, 1) := by decide +kernel
theorem dX0_settle_23 : decode cX0_settle 23 = .ok (.aload_n 0, 1) := by decide +kernel
theorem dX0_settle_24 : decode cX0_settle 24 = .ok (.iload_n 1, 1) := by decide +kernel
theorem dX0_settle_25 : decode cX0_settle 25 = .ok (.invokevirtual 63, 3) := by decide +kernel
theorem dX0_settle_28 : decode cX0_settle 28 = .ok (.lastore, 1) := by decide +kernel
theorem dX0_settle_29 : decode cX0_settle 29 = .ok (.iinc 1 1, 3) := by decide +kernel
theorem dX0_settle_32 : decode cX0_settle 32 = .ok (.goto (-30), 3) := by decide +kernel
theorem dX0_settle_35 : decode cX0_settle 35 = .ok (.return_, 1) := by decide +kernel
abbrev rmX0_settle : Room := { frames := 3, cells := 0, slots := 0, locals := 63 }
set_option maxHeartbeats 4000000 in
set_option maxRecDepth 100000 in
theorem kX0_settle (l : Launch) (D : va_G) (cy : Nat → ClassId) (h0 : Nat) (a0 : Nat → Nat) (s0 : Rc) (res : Rc) (h : fX0_settle s0 = some res) : CV l D cy yX0_settle wsX0_settle rmX0_settle [.ref h0] (flat [WX0 cy h0 a0 s0]) (flat [WX0 cy h0 a0 res]) := by
  refine CV.of (cc := cX0_settle) (maxL := 2) (by decide) rfl (Nat.le_of_ble_eq_true rfl) ?_
  intro p e s m args below meth c A QQ ls E hr
  obtain ⟨hx, hb, hml, hown, hts, hK, hN, hP, hD, hA, hl⟩ := E
  have hret : ∀ (pc : Nat) (H : Heap) (locs : List Loc) (ls : Array Slot) (u : Rc), u = res → va_P D vwCl (flat [WX0 cy h0 a0 u]) H → va_D A (flat [WX0 cy h0 a0 u]) → va_S A s.heap H locs → decode cX0_settle pc = .ok (.return_, 1) → W p l e rmX0_settle s m args below meth c H locs 0 0 QQ (F0 m pc ls []) := by
    intro pc H locs ls u hu hP hD hS hd; subst hu; exact hr pc H locs ls hP hD hS hd
  clear hr
  have hl : lv_has ls 2 [(0, .ref h0)] := hl
  have hinX0 : ∀ w ∈ wsX00, w ∈ wsX0_settle := fun _ h => List.mem_cons_of_mem _ (List.mem_append_right _ h)
  unfold fX0_settle at h
  suffices key : ∀ (H : Heap) (locs : List Loc), va_P D vwCl (flat [WX0 cy h0 a0 s0]) H → va_S A s.heap H locs → W p l e rmX0_settle s m args below meth c H locs 0 0 QQ (F0 m 0 ls []) from key _ _ hP va_S.rf
  clear hP
  intro H locs hP hS
  refine lv_iconst (v := 0) hx hb dX0_settle_0 (by decide) ?_
  refine lv_istore_n (lv' := [(1, .int (0 : Int32)), (0, .ref h0)]) hx hb dX0_settle_1 rfl hl (by decide) rfl (fun ls hl => ?_)
  have L2 : ∀ (n : Nat) (q2 : Int32 × Rc) (o : Rc), loopO (fX0_settle_L2) n q2 = some o → ∀ (H : Heap) (locs : List Loc) (ls : Array Slot), lv_has ls 2 [(0, .ref h0), (1, .int q2.1)] → va_P D vwCl (flat [WX0 cy h0 a0 q2.2]) H → va_D A (flat [WX0 cy h0 a0 q2.2]) → va_S A s.heap H locs → ∀ (kk35 : ∀ (H : Heap) (locs : List Loc) (ls : Array Slot), lv_has ls 2 [] → va_P D vwCl (flat [WX0 cy h0 a0 o]) H → va_D A (flat [WX0 cy h0 a0 o]) → va_S A s.heap H locs → W p l e rmX0_settle s m args below meth c H locs 0 0 QQ (F0 m 35 ls [])), W p l e rmX0_settle s m args below meth c H locs 0 0 QQ (F0 m 2 ls []) := by
    intro n
    induction n with
    | zero => intro q2 o h; exact absurd h (by rw [loopO_zero]; intro z; cases z)
    | succ n ih =>
      intro q2 o h H locs ls hl hP hD hS kk35
      obtain ⟨w, h, hgo, hst⟩ := loopO_elim h
      unfold fX0_settle_L2 at h
      refine lv_iload_n hx hb dX0_settle_2 rfl (lv_at hl 1 rfl) ?_
      refine lv_aload_n hx hb dX0_settle_3 rfl (lv_at hl 0 rfl) ?_
      refine va_get (D := D) (ci := 0) (v := .int (gi q2.2 8)) (C := RX0) (T := TX0) (N := 14) hx hb hts hinX0 hown hK hP 0 rfl rfl 8 (by decide) (hts (.fieldLink RX0 37 "KneeBench$Bench" "farmers" "I") (List.mem_of_getElem? (i := 1) rfl)) (fun _ h9 => h9) rfl dX0_settle_4 ?_
      refine lv_icmp_ge (tgt := 35) hx hb dX0_settle_7 (by decide) (fun c1 => ?_) (fun c1 => ?_)
      · replace h := (if_pos c1).symm.trans h
        have eo := hst _ (Option.some.inj h).symm
        subst eo
        exact kk35 H locs ls (lv_sub hl [] rfl) hP hD hS
      · replace h := (if_neg c1).symm.trans h
        refine lv_aload_n hx hb dX0_settle_10 rfl (lv_at hl 0 rfl) ?_
        refine va_get (D := D) (ci := 0) (v := .ref (a0 5)) (C := RX0) (T := TX0) (N := 14) hx hb hts hinX0 hown hK hP 0 rfl rfl 5 (by decide) (hts (.fieldLink RX0 28 "KneeBench$Bench" "weights" "[I") (List.mem_of_getElem? (i := 2) rfl)) (fun _ h9 => h9) rfl dX0_settle_11 ?_
        refine lv_iload_n hx hb dX0_settle_14 rfl (lv_at hl 1 rfl) ?_
        refine lv_bipush (v := 64) hx hb dX0_settle_15 (by decide) ?_
        obtain ⟨g2, h⟩ := gd_elim h
        obtain ⟨s0_3, es, h⟩ := lt_elim h
        refine va_iast hx hb hK hP hD hS 6 1 rfl rfl (inb_in g2) dX0_settle_17 (fun H locs hP hD hS => ?_)
        have hP : va_P D vwCl (flat [WX0 cy h0 a0 s0_3]) H := by rw [es]; exact hP
        have hD : va_D A (flat [WX0 cy h0 a0 s0_3]) := by rw [es]; exact hD
        clear es
        refine lv_aload_n hx hb dX0_settle_18 rfl (lv_at hl 0 rfl) ?_
        refine va_get (D := D) (ci := 0) (v := .ref (a0 6)) (C := RX0) (T := TX0) (N := 14) hx hb hts hinX0 hown hK hP 0 rfl rfl 6 (by decide) (hts (.fieldLink RX0 31 "KneeBench$Bench" "twinges" "[J") (List.mem_of_getElem? (i := 3) rfl)) (fun _ h9 => h9) rfl dX0_settle_19 ?_
        refine lv_iload_n hx hb dX0_settle_22 rfl (lv_at hl 1 rfl) ?_
        refine lv_aload_n hx hb dX0_settle_23 rfl (lv_at hl 0 rfl) ?_
        refine lv_iload_n hx hb dX0_settle_24 rfl (lv_at hl 1 rfl) ?_
        obtain ⟨r4, hr4, h⟩ := bd_elim h
        refine ca_l (w' := [WX0 cy h0 a0 s0_3]) (rn_V (As := [.int q2.1]) (rest := [.int q2.1, .ref (a0 6)]) ⟨hx, hb, hml, hown, hts⟩ (kX0_dueDays l D cy h0 a0 s0_3 q2.1 r4 hr4 H.size) (cwV 1 hts gX0_settle_X0_dueDays rfl rfl rfl (by decide +kernel) ⟨Nat.le_of_ble_eq_true rfl, Nat.le_of_ble_eq_true rfl⟩) hK hN hP hD [0] rfl rfl (ci := 0) (q0 := 0) rfl rfl rfl rfl hl.1 rfl (Nat.le_of_ble_eq_true rfl) dX0_settle_25 ⟨Nat.le_refl 0, Nat.le_refl 0⟩) hP hD hS hA [0] ⟨rfl, rfl, rfl, rfl⟩ (fun H locs hP hD hS => ?_)
        obtain ⟨s0_5, es, h⟩ := lt_elim h
        refine va_last hx hb hK hP hD hS 7 2 rfl rfl (inb_in g2) dX0_settle_28 (fun H locs hP hD hS => ?_)
        have hP : va_P D vwCl (flat [WX0 cy h0 a0 s0_5]) H := by rw [es]; exact hP
        have hD : va_D A (flat [WX0 cy h0 a0 s0_5]) := by rw [es]; exact hD
        clear es
        refine lv_iinc (v := (q2.1 + (1 : Int32))) (lv' := [(1, .int (q2.1 + (1 : Int32))), (0, .ref h0)]) hx hb dX0_settle_29 hl (k := 1) rfl rfl (by decide) rfl (fun ls hl => ?_)
        refine lv_goto (tgt := 2) hx hb dX0_settle_32 (by decide) ?_
        exact ih _ o (hgo _ (Option.some.inj h).symm) H locs ls (lv_sub hl [1, 0] rfl) hP hD hS kk35
  obtain ⟨o2, ho2, h⟩ := bd_elim h
  obtain ⟨n2, hn2⟩ := loopF_some ho2
  refine L2 n2 _ o2 hn2 H locs ls (lv_sub hl [1, 0] rfl) hP hD hS (fun H locs ls hl hP hD hS => ?_)
  exact hret 35 H locs ls o2 (Option.some.inj h) hP hD hS dX0_settle_35
theorem gd_X0_tippersOf : wsX0_tippersOf.all goodWord = true := by decide +kernel
set_option maxRecDepth 20000 in
theorem ggX0_tippersOf_X0_tellersOf : GoodIn wsX0_tippersOf wsX0_tellersOf := goodIn_by gd_X0_tippersOf (List.forall_mem_cons.mpr ⟨List.mem_cons_of_mem _ (List.mem_append_left _ (List.mem_append_left _ (List.mem_of_getElem? (i := 6) rfl))), List.forall_mem_append.mpr ⟨List.forall_mem_cons.mpr ⟨List.mem_cons_of_mem _ (List.mem_append_left _ (List.mem_append_left _ (List.mem_of_getElem? (i := 1) rfl))), List.forall_mem_cons.mpr ⟨List.mem_cons_of_mem _ (List.mem_append_left _ (List.mem_append_left _ (List.mem_of_getElem? (i := 7) rfl))), List.forall_mem_cons.mpr ⟨List.mem_cons_of_mem _ (List.mem_append_left _ (List.mem_append_left _ (List.mem_of_getElem? (i := 8) rfl))), List.forall_mem_cons.mpr ⟨List.mem_cons_of_mem _ (List.mem_append_left _ (List.mem_append_left _ (List.mem_of_getElem? (i := 9) rfl))), List.forall_mem_cons.mpr ⟨List.mem_cons_of_mem _ (List.mem_append_left _ (List.mem_append_left _ (List.mem_of_getElem? (i := 5) rfl))), List.forall_mem_cons.mpr ⟨List.mem_cons_of_mem _ (List.mem_append_left _ (List.mem_append_left _ (List.mem_of_getElem? (i := 10) rfl))), List.forall_mem_cons.mpr ⟨List.mem_cons_of_mem _ (List.mem_append_left _ (List.mem_append_left _ (List.mem_of_getElem? (i := 11) rfl))), List.forall_mem_cons.mpr ⟨List.mem_cons_of_mem _ (List.mem_append_left _ (List.mem_append_left _ (List.mem_of_getElem? (i := 12) rfl))), List.forall_mem_cons.mpr ⟨List.mem_cons_of_mem _ (List.mem_append_left _ (List.mem_append_left _ (List.mem_of_getElem? (i := 13) rfl))), nowords_in⟩⟩⟩⟩⟩⟩⟩⟩⟩, (fun _ h => List.mem_cons_of_mem _ (List.mem_append_right _ (h)))⟩⟩)
set_option maxRecDepth 20000 in
theorem gX0_tippersOf_X0_tellersOf : GoodIn wsX0_tippersOf (wsV RX0 143 RX0 yX0_tellersOf wsX0_tellersOf) := goodIn_app (goodIn_by gd_X0_tippersOf (List.forall_mem_cons.mpr ⟨List.mem_cons_of_mem _ (List.mem_append_left _ (List.mem_append_left _ (List.mem_of_getElem? (i := 2) rfl))), List.forall_mem_cons.mpr ⟨List.mem_cons_of_mem _ (List.mem_append_left _ (List.mem_append_left _ (List.mem_of_getElem? (i := 3) rfl))), List.forall_mem_cons.mpr ⟨List.mem_cons_of_mem _ (List.mem_append_left _ (List.mem_append_left _ (List.mem_of_getElem? (i := 4) rfl))), List.forall_mem_cons.mpr ⟨List.mem_cons_of_mem _ (List.mem_append_left _ (List.mem_append_left _ (List.mem_of_getElem? (i := 5) rfl))), nowords_in⟩⟩⟩⟩)) ggX0_tippersOf_X0_tellersOf
set_option maxRecDepth 20000 in
theorem ggX0_tippersOf_X0_believersOf : GoodIn wsX0_tippersOf wsX0_believersOf := goodIn_by gd_X0_tippersOf (List.forall_mem_cons.mpr ⟨List.mem_cons_of_mem _ (List.mem_append_left _ (List.mem_append_left _ (List.mem_of_getElem? (i := 17) rfl))), List.forall_mem_append.mpr ⟨List.forall_mem_cons.mpr ⟨List.mem_cons_of_mem _ (List.mem_append_left _ (List.mem_append_left _ (List.mem_of_getElem? (i := 1) rfl))), List.forall_mem_cons.mpr ⟨List.mem_cons_of_mem _ (List.mem_append_left _ (List.mem_append_left _ (List.mem_of_getElem? (i := 18) rfl))), List.forall_mem_cons.mpr ⟨List.mem_cons_of_mem _ (List.mem_append_left _ (List.mem_append_left _ (List.mem_of_getElem? (i := 19) rfl))), List.forall_mem_cons.mpr ⟨List.mem_cons_of_mem _ (List.mem_append_left _ (List.mem_append_left _ (List.mem_of_getElem? (i := 20) rfl))), List.forall_mem_cons.mpr ⟨List.mem_cons_of_mem _ (List.mem_append_left _ (List.mem_append_left _ (List.mem_of_getElem? (i := 5) rfl))), List.forall_mem_cons.mpr ⟨List.mem_cons_of_mem _ (List.mem_append_left _ (List.mem_append_left _ (List.mem_of_getElem? (i := 21) rfl))), List.forall_mem_cons.mpr ⟨List.mem_cons_of_mem _ (List.mem_append_left _ (List.mem_append_left _ (List.mem_of_getElem? (i := 11) rfl))), List.forall_mem_cons.mpr ⟨List.mem_cons_of_mem _ (List.mem_append_left _ (List.mem_append_left _ (List.mem_of_getElem? (i := 7) rfl))), List.forall_mem_cons.mpr ⟨List.mem_cons_of_mem _ (List.mem_append_left _ (List.mem_append_left _ (List.mem_of_getElem? (i := 8) rfl))), List.forall_mem_cons.mpr ⟨List.mem_cons_of_mem _ (List.mem_append_left _ (List.mem_append_left _ (List.mem_of_getElem? (i := 9) rfl))), List.forall_mem_cons.mpr ⟨List.mem_cons_of_mem _ (List.mem_append_left _ (List.mem_append_left _ (List.mem_of_getElem? (i := 10) rfl))), List.forall_mem_cons.mpr ⟨List.mem_cons_of_mem _ (List.mem_append_left _ (List.mem_append_left _ (List.mem_of_getElem? (i := 12) rfl))), List.forall_mem_cons.mpr ⟨List.mem_cons_of_mem _ (List.mem_append_left _ (List.mem_append_left _ (List.mem_of_getElem? (i := 13) rfl))), List.forall_mem_cons.mpr ⟨List.mem_cons_of_mem _ (List.mem_append_left _ (List.mem_append_left _ (List.mem_of_getElem? (i := 22) rfl))), List.forall_mem_cons.mpr ⟨List.mem_cons_of_mem _ (List.mem_append_left _ (List.mem_append_left _ (List.mem_of_getElem? (i := 23) rfl))), List.forall_mem_cons.mpr ⟨List.mem_cons_of_mem _ (List.mem_append_left _ (List.mem_append_right _ (List.mem_of_getElem? (i := 0) rfl))), List.forall_mem_cons.mpr ⟨List.mem_cons_of_mem _ (List.mem_append_left _ (List.mem_append_right _ (List.mem_of_getElem? (i := 1) rfl))), List.forall_mem_cons.mpr ⟨List.mem_cons_of_mem _ (List.mem_append_left _ (List.mem_append_right _ (List.mem_of_getElem? (i := 2) rfl))), nowords_in⟩⟩⟩⟩⟩⟩⟩⟩⟩⟩⟩⟩⟩⟩⟩⟩⟩⟩, (fun _ h => List.mem_cons_of_mem _ (List.mem_append_right _ (h)))⟩⟩)
set_option maxRecDepth 20000 in
theorem gX0_tippersOf_X0_believersOf : GoodIn wsX0_tippersOf (wsV RX0 146 RX0 yX0_believersOf wsX0_believersOf) := goodIn_app (goodIn_by gd_X0_tippersOf (List.forall_mem_cons.mpr ⟨List.mem_cons_of_mem _ (List.mem_append_left _ (List.mem_append_left _ (List.mem_of_getElem? (i := 14) rfl))), List.forall_mem_cons.mpr ⟨List.mem_cons_of_mem _ (List.mem_append_left _ (List.mem_append_left _ (List.mem_of_getElem? (i := 15) rfl))), List.forall_mem_cons.mpr ⟨List.mem_cons_of_mem _ (List.mem_append_left _ (List.mem_append_left _ (List.mem_of_getElem? (i := 16) rfl))), List.forall_mem_cons.mpr ⟨List.mem_cons_of_mem _ (List.mem_append_left _ (List.mem_append_left _ (List.mem_of_getElem? (i := 5) rfl))), nowords_in⟩⟩⟩⟩)) ggX0_tippersOf_X0_believersOf
set_option maxRecDepth 20000 in
theorem ggX0_tippersOf_X0_verdict : GoodIn wsX0_tippersOf wsX0_verdict := goodIn_by gd_X0_tippersOf (List.forall_mem_cons.mpr ⟨List.mem_cons_of_mem _ (List.mem_append_left _ (List.mem_append_right _ (List.mem_of_getElem? (i := 6) rfl))), List.forall_mem_append.mpr ⟨List.forall_mem_cons.mpr ⟨List.mem_cons_of_mem _ (List.mem_append_left _ (List.mem_append_right _ (List.mem_of_getElem? (i := 7) rfl))), List.forall_mem_cons.mpr ⟨List.mem_cons_of_mem _ (List.mem_append_left _ (List.mem_append_right _ (List.mem_of_getElem? (i := 8) rfl))), List.forall_mem_cons.mpr ⟨List.mem_cons_of_mem _ (List.mem_append_left _ (List.mem_append_right _ (List.mem_of_getElem? (i := 9) rfl))), List.forall_mem_cons.mpr ⟨List.mem_cons_of_mem _ (List.mem_append_left _ (List.mem_append_right _ (List.mem_of_getElem? (i := 10) rfl))), List.forall_mem_cons.mpr ⟨List.mem_cons_of_mem _ (List.mem_append_left _ (List.mem_append_right _ (List.mem_of_getElem? (i := 11) rfl))), List.forall_mem_cons.mpr ⟨List.mem_cons_of_mem _ (List.mem_append_left _ (List.mem_append_right _ (List.mem_of_getElem? (i := 12) rfl))), List.forall_mem_cons.mpr ⟨List.mem_cons_of_mem _ (List.mem_append_left _ (List.mem_append_right _ (List.mem_of_getElem? (i := 13) rfl))), List.forall_mem_cons.mpr ⟨List.mem_cons_of_mem _ (List.mem_append_left _ (List.mem_append_right _ (List.mem_of_getElem? (i := 14) rfl))), List.forall_mem_cons.mpr ⟨List.mem_cons_of_mem _ (List.mem_append_left _ (List.mem_append_right _ (List.mem_of_getElem? (i := 15) rfl))), List.forall_mem_cons.mpr ⟨List.mem_cons_of_mem _ (List.mem_append_left _ (List.mem_append_right _ (List.mem_of_getElem? (i := 16) rfl))), List.forall_mem_cons.mpr ⟨List.mem_cons_of_mem _ (List.mem_append_left _ (List.mem_append_right _ (List.mem_of_getElem? (i := 17) rfl))), List.forall_mem_cons.mpr ⟨List.mem_cons_of_mem _ (List.mem_append_left _ (List.mem_append_right _ (List.mem_of_getElem? (i := 18) rfl))), List.forall_mem_cons.mpr ⟨List.mem_cons_of_mem _ (List.mem_append_left _ (List.mem_append_right _ (List.mem_of_getElem? (i := 19) rfl))), List.forall_mem_cons.mpr ⟨List.mem_cons_of_mem _ (List.mem_append_left _ (List.mem_append_left _ (List.mem_of_getElem? (i := 5) rfl))), List.forall_mem_cons.mpr ⟨List.mem_cons_of_mem _ (List.mem_append_left _ (List.mem_append_right _ (List.mem_of_getElem? (i := 20) rfl))), List.forall_mem_cons.mpr ⟨List.mem_cons_of_mem _ (List.mem_append_left _ (List.mem_append_left _ (List.mem_of_getElem? (i := 1) rfl))), List.forall_mem_cons.mpr ⟨List.mem_cons_of_mem _ (List.mem_append_left _ (List.mem_append_right _ (List.mem_of_getElem? (i := 21) rfl))), nowords_in⟩⟩⟩⟩⟩⟩⟩⟩⟩⟩⟩⟩⟩⟩⟩⟩⟩, (fun _ h => List.mem_cons_of_mem _ (List.mem_append_right _ (h)))⟩⟩)
set_option maxRecDepth 20000 in
theorem gX0_tippersOf_X0_verdict : GoodIn wsX0_tippersOf (wsV RX0 149 RX0 yX0_verdict wsX0_verdict) := goodIn_app (goodIn_by gd_X0_tippersOf (List.forall_mem_cons.mpr ⟨List.mem_cons_of_mem _ (List.mem_append_left _ (List.mem_append_right _ (List.mem_of_getElem? (i := 3) rfl))), List.forall_mem_cons.mpr ⟨List.mem_cons_of_mem _ (List.mem_append_left _ (List.mem_append_right _ (List.mem_of_getElem? (i := 4) rfl))), List.forall_mem_cons.mpr ⟨List.mem_cons_of_mem _ (List.mem_append_left _ (List.mem_append_right _ (List.mem_of_getElem? (i := 5) rfl))), List.forall_mem_cons.mpr ⟨List.mem_cons_of_mem _ (List.mem_append_left _ (List.mem_append_left _ (List.mem_of_getElem? (i := 5) rfl))), nowords_in⟩⟩⟩⟩)) ggX0_tippersOf_X0_verdict
theorem dX0_tippersOf_0 : decode cX0_tippersOf 0 = .ok (.aload_n 0, 1) := by decide +kernel
theorem dX0_tippersOf_1 : decode cX0_tippersOf 1 = .ok (.iload_n 1, 1) := by decide +kernel
theorem dX0_tippersOf_2 : decode cX0_tippersOf 2 = .ok (.invokevirtual 143, 3) := by decide +kernel
theorem dX0_tippersOf_5 : decode cX0_tippersOf 5 = .ok (.istore_n 2, 1) := by decide +kernel
theorem dX0_tippersOf_6 : decode cX0_tippersOf 6 = .ok (.aload_n 0, 1) := by decide +kernel
theorem dX0_tippersOf_7 : decode cX0_tippersOf 7 = .ok (.iload_n 1, 1) := by decide +kernel
theorem dX0_tippersOf_8 : decode cX0_tippersOf 8 = .ok (.invokevirtual 146, 3) := by decide +kernel
theorem dX0_tippersOf_11 : decode cX0_tippersOf 11 = .ok (.istore_n 3, 1) := by decide +kernel
theorem dX0_tippersOf_12 : decode cX0_tippersOf 12 = .ok (.aload_n 0, 1) := by decide +kernel
theorem dX0_tippersOf_13 : decode cX0_tippersOf 13 = .ok (.aload_n 0, 1) := by decide +kernel
theorem dX0_tippersOf_14 : decode cX0_tippersOf 14 = .ok (.getfield 51, 3) := by decide +kernel
theorem dX0_tippersOf_17 : decode cX0_tippersOf 17 = .ok (.iload_n 2, 1) := by decide +kernel
theorem dX0_tippersOf_18 : decode cX0_tippersOf 18 = .ok (.iload_n 3, 1) := by decide +kernel
theorem dX0_tippersOf_19 : decode cX0_tippersOf 19 = .ok (.invokevirtual 149, 3) := by decide +kernel
theorem dX0_tippersOf_22 : decode cX0_tippersOf 22 = .ok (.istore 4, 2) := by decide +kernel
theorem dX0_tippersOf_24 : decode cX0_tippersOf 24 = .ok (.iconst 0, 1) := by decide +kernel
theorem dX0_tippersOf_25 : decode cX0_tippersOf 25 = .ok (.istore 5, 2) := by decide +kernel
theorem dX0_tippersOf_27 : decode cX0_tippersOf 27 = .ok (.iconst 0, 1) := by decide +kernel
theorem dX0_tippersOf_28 : decode cX0_tippersOf 28 = .ok (.istore 6, 2) := by decide +kernel
theorem dX0_tippersOf_30 : decode cX0_tippersOf 30 = .ok (.iload 6, 2) := by decide +kernel
theorem dX0_tippersOf_32 : decode cX0_tippersOf 32 = .ok (.aload_n 0, 1) := by decide +kernel
theorem dX0_tippersOf_33 : decode cX0_tippersOf 33 = .ok (.getfield 37, 3) := by decide +kernel
theorem dX0_tippersOf_36 : decode cX0_tippersOf 36 = .ok (.if_icmp .ge 47, 3) := by decide +kernel
theorem dX0_tippersOf_39 : decode cX0_tippersOf 39 = .ok (.iconst 1, 1) := by decide +kernel
theorem dX0_tippersOf_40 : decode cX0_tippersOf 40 = .ok (.iload 6, 2) := by decide +kernel
theorem dX0_tippersOf_42 : decode cX0_tippersOf 42 = .ok (.ishl, 1) := by decide +kernel
theorem dX0_tippersOf_43 : decode cX0_tippersOf 43 = .ok (.istore 7, 2) := by decide +kernel
theorem dX0_tippersOf_45 : decode cX0_tippersOf 45 = .ok (.iload_n 2, 1) := by decide +kernel
theorem dX0_tippersOf_46 : decode cX0_tippersOf 46 = .ok (.iload 7, 2) := by decide +kernel
theorem dX0_tippersOf_48 : decode cX0_tippersOf 48 = .ok (.iand, 1) := by decide +kernel
theorem dX0_tippersOf_49 : decode cX0_tippersOf 49 = .ok (.ifCond .eq 28, 3) := by decide +kernel
theorem dX0_tippersOf_52 : decode cX0_tippersOf 52 = .ok (.aload_n 0, 1) := by decide +kernel
theorem dX0_tippersOf_53 : decode cX0_tippersOf 53 = .ok (.aload_n 0, 1) := by decide +kernel
theorem dX0_tippersOf_54 : decode cX0_tippersOf 54 = .ok (.getfield 51, 3) := by decide +kernel
theorem dX0_tippersOf_57 : decode cX0_tippersOf 57 = .ok (.iload_n 2, 1) := by decide +kernel
theorem dX0_tippersOf_58 : decode cX0_tippersOf 58 = .ok (.iload_n 3, 1) := by decide +kernel
theorem dX0_tippersOf_59 : decode cX0_tippersOf 59 = .ok (.iload 7, 2) := by decide +kernel
theorem dX0_tippersOf_61 : decode cX0_tippersOf 61 = .ok (.ixor, 1) := by decide +kernel
theorem dX0_tippersOf_62 : decode cX0_tippersOf 62 = .ok (.invokevirtual 149, 3) := by decide +kernel
theorem dX0_tippersOf_65 : decode cX0_tippersOf 65 = .ok (.iload 4, 2) := by decide +kernel
theorem dX0_tippersOf_67 : decode cX0_tippersOf 67 = .ok (.if_icmp .eq 10, 3) := by decide +kernel
theorem dX0_tippersOf_70 : decode cX0_tippersOf 70 = .ok (.iload 5, 2) := by decide +kernel
theorem dX0_tippersOf_72 : decode cX0_tippersOf 72 = .ok (.iload 7, 2) := by decide +kernel
theorem dX0_tippersOf_74 : decode cX0_tippersOf 74 = .ok (.ior, 1) := by decide +kernel
theorem dX0_tippersOf_75 : decode cX0_tippersOf 75 = .ok (.istore 5, 2) := by decide +kernel
theorem dX0_tippersOf_77 : decode cX0_tippersOf 77 = .ok (.iinc 6 1, 3) := by decide +kernel
theorem dX0_tippersOf_80 : decode cX0_tippersOf 80 = .ok (.goto (-50), 3) := by decide +kernel
theorem dX0_tippersOf_83 : decode cX0_tippersOf 83 = .ok (.iload 5, 2) := by decide +kernel
theorem dX0_tippersOf_85 : decode cX0_tippersOf 85 = .ok (.ireturn, 1) := by decide +kernel
abbrev rmX0_tippersOf : Room := { frames := 3, cells := 0, slots := 0, locals := 68 }
set_option maxHeartbeats 4000000 in
set_option maxRecDepth 100000 in
theorem kX0_tippersOf (l : Launch) (D : va_G) (cy : Nat → ClassId) (h0 : Nat) (a0 : Nat → Nat) (s0 : Rc) (p1 : Int32) (res : Int32) (h : fX0_tippersOf p1 s0 = some res) : CI l D cy yX0_tippersOf wsX0_tippersOf rmX0_tippersOf [.ref h0, .int p1] (flat [WX0 cy h0 a0 s0]) (flat [WX0 cy h0 a0 s0]) res := by
  refine CI.of (cc := cX0_tippersOf) (maxL := 8) (by decide) rfl (Nat.le_of_ble_eq_true rfl) ?_
  intro p e s m args below meth c A QQ ls E hr
  obtain ⟨hx, hb, hml, hown, hts, hK, hN, hP, hD, hA, hl⟩ := E
  have hret : ∀ (pc : Nat) (H : Heap) (locs : List Loc) (ls : Array Slot) (u : Int32), u = res → va_P D vwCl (flat [WX0 cy h0 a0 s0]) H → va_D A (flat [WX0 cy h0 a0 s0]) → va_S A s.heap H locs → decode cX0_tippersOf pc = .ok (.ireturn, 1) → W p l e rmX0_tippersOf s m args below meth c H locs 0 0 QQ (F0 m pc ls [.int u]) := by
    intro pc H locs ls u hu hP hD hS hd; subst hu; exact hr pc H locs ls _ rfl hP hD hS hd
  clear hr
  have hl : lv_has ls 8 [(0, .ref h0), (1, .int p1)] := hl
  have hinX0 : ∀ w ∈ wsX00, w ∈ wsX0_tippersOf := fun _ h => List.mem_cons_of_mem _ (List.mem_append_right _ h)
  unfold fX0_tippersOf at h
  suffices key : ∀ (H : Heap) (locs : List Loc), va_P D vwCl (flat [WX0 cy h0 a0 s0]) H → va_S A s.heap H locs → W p l e rmX0_tippersOf s m args below meth c H locs 0 0 QQ (F0 m 0 ls []) from key _ _ hP va_S.rf
  clear hP
  intro H locs hP hS
  refine lv_aload_n hx hb dX0_tippersOf_0 rfl (lv_at hl 0 rfl) ?_
  refine lv_iload_n hx hb dX0_tippersOf_1 rfl (lv_at hl 1 rfl) ?_
  obtain ⟨r1, hr1, h⟩ := bd_elim h
  refine ca_i (w' := [WX0 cy h0 a0 s0]) (rn_V (As := [.int p1]) (rest := []) ⟨hx, hb, hml, hown, hts⟩ (kX0_tellersOf l D cy h0 a0 s0 p1 r1 hr1 H.size) (cwV 1 hts gX0_tippersOf_X0_tellersOf rfl rfl rfl (by decide +kernel) ⟨Nat.le_of_ble_eq_true rfl, Nat.le_of_ble_eq_true rfl⟩) hK hN hP hD [0] rfl rfl (ci := 0) (q0 := 0) rfl rfl rfl rfl hl.1 rfl (Nat.le_of_ble_eq_true rfl) dX0_tippersOf_2 ⟨Nat.le_refl 0, Nat.le_refl 0⟩) hP hD hS hA [0] ⟨rfl, rfl, rfl, rfl⟩ (fun H locs hP hD hS => ?_)
  refine lv_istore_n (lv' := [(2, .int r1), (0, .ref h0), (1, .int p1)]) hx hb dX0_tippersOf_5 rfl hl (by decide) rfl (fun ls hl => ?_)
  refine lv_aload_n hx hb dX0_tippersOf_6 rfl (lv_at hl 1 rfl) ?_
  refine lv_iload_n hx hb dX0_tippersOf_7 rfl (lv_at hl 2 rfl) ?_
  obtain ⟨r2, hr2, h⟩ := bd_elim h
  refine ca_i (w' := [WX0 cy h0 a0 s0]) (rn_V (As := [.int p1]) (rest := []) ⟨hx, hb, hml, hown, hts⟩ (kX0_believersOf l D cy h0 a0 s0 p1 r2 hr2 H.size) (cwV 1 hts gX0_tippersOf_X0_believersOf rfl rfl rfl (by decide +kernel) ⟨Nat.le_of_ble_eq_true rfl, Nat.le_of_ble_eq_true rfl⟩) hK hN hP hD [0] rfl rfl (ci := 0) (q0 := 0) rfl rfl rfl rfl hl.1 rfl (Nat.le_of_ble_eq_true rfl) dX0_tippersOf_8 ⟨Nat.le_refl 0, Nat.le_refl 0⟩) hP hD hS hA [0] ⟨rfl, rfl, rfl, rfl⟩ (fun H locs hP hD hS => ?_)
  refine lv_istore_n (lv' := [(3, .int r2), (2, .int r1), (0, .ref h0), (1, .int p1)]) hx hb dX0_tippersOf_11 rfl hl (by decide) rfl (fun ls hl => ?_)
  refine lv_aload_n hx hb dX0_tippersOf_12 rfl (lv_at hl 2 rfl) ?_
  refine lv_aload_n hx hb dX0_tippersOf_13 rfl (lv_at hl 2 rfl) ?_
  refine va_get (D := D) (ci := 0) (v := .int (gi s0 12)) (C := RX0) (T := TX0) (N := 14) hx hb hts hinX0 hown hK hP 0 rfl rfl 12 (by decide) (hts (.fieldLink RX0 51 "KneeBench$Bench" "vote" "I") (List.mem_of_getElem? (i := 1) rfl)) (fun _ h9 => h9) rfl dX0_tippersOf_14 ?_
  refine lv_iload_n hx hb dX0_tippersOf_17 rfl (lv_at hl 1 rfl) ?_
  refine lv_iload_n hx hb dX0_tippersOf_18 rfl (lv_at hl 0 rfl) ?_
  obtain ⟨r3, hr3, h⟩ := bd_elim h
  refine ca_i (w' := [WX0 cy h0 a0 s0]) (rn_V (As := [.int (gi s0 12), .int r1, .int r2]) (rest := []) ⟨hx, hb, hml, hown, hts⟩ (kX0_verdict l D cy h0 a0 s0 (gi s0 12) r1 r2 r3 hr3 H.size) (cwV 3 hts gX0_tippersOf_X0_verdict rfl rfl rfl (by decide +kernel) ⟨Nat.le_of_ble_eq_true rfl, Nat.le_of_ble_eq_true rfl⟩) hK hN hP hD [0] rfl rfl (ci := 0) (q0 := 0) rfl rfl rfl rfl hl.1 rfl (Nat.le_of_ble_eq_true rfl) dX0_tippersOf_19 ⟨Nat.le_refl 0, Nat.le_refl 0⟩) hP hD hS hA [0] ⟨rfl, rfl, rfl, rfl⟩ (fun H locs hP hD hS => ?_)
  refine lv_istore (lv' := [(4, .int r3), (3, .int r2), (2, .int r1), (0, .ref h0), (1, .int p1)]) hx hb dX0_tippersOf_22 hl (by decide) rfl (fun ls hl => ?_)
  refine lv_iconst (v := 0) hx hb dX0_tippersOf_24 (by decide) ?_
  refine lv_istore (lv' := [(5, .int (0 : Int32)), (4, .int r3), (3, .int r2), (2, .int r1), (0, .ref h0), (1, .int p1)]) hx hb dX0_tippersOf_25 hl (by decide) rfl (fun ls hl => ?_)
  refine lv_iconst (v := 0) hx hb dX0_tippersOf_27 (by decide) ?_
  refine lv_istore (lv' := [(6, .int (0 : Int32)), (5, .int (0 : Int32)), (4, .int r3), (3, .int r2), (2, .int r1), (0, .ref h0), (1, .int p1)]) hx hb dX0_tippersOf_28 hl (by decide) rfl (fun ls hl => ?_)
  have L30 : ∀ (n : Nat) (q30 : Int32 × Int32) (o : Int32), loopO (fX0_tippersOf_L30 s0 r1 r2 r3) n q30 = some o → ∀ (H : Heap) (locs : List Loc) (ls : Array Slot), lv_has ls 8 [(4, .int r3), (3, .int r2), (2, .int r1), (0, .ref h0), (5, .int q30.1), (6, .int q30.2)] → va_P D vwCl (flat [WX0 cy h0 a0 s0]) H → va_D A (flat [WX0 cy h0 a0 s0]) → va_S A s.heap H locs → ∀ (kk83 : ∀ (H : Heap) (locs : List Loc) (ls : Array Slot), lv_has ls 8 [(5, .int o)] → va_P D vwCl (flat [WX0 cy h0 a0 s0]) H → va_D A (flat [WX0 cy h0 a0 s0]) → va_S A s.heap H locs → W p l e rmX0_tippersOf s m args below meth c H locs 0 0 QQ (F0 m 83 ls [])), W p l e rmX0_tippersOf s m args below meth c H locs 0 0 QQ (F0 m 30 ls []) := by
    intro n
    induction n with
    | zero => intro q30 o h; exact absurd h (by rw [loopO_zero]; intro z; cases z)
    | succ n ih =>
      intro q30 o h H locs ls hl hP hD hS kk83
      obtain ⟨w, h, hgo, hst⟩ := loopO_elim h
      unfold fX0_tippersOf_L30 at h
      refine lv_iload hx hb dX0_tippersOf_30 (lv_at hl 5 rfl) ?_
      refine lv_aload_n hx hb dX0_tippersOf_32 rfl (lv_at hl 3 rfl) ?_
      refine va_get (D := D) (ci := 0) (v := .int (gi s0 8)) (C := RX0) (T := TX0) (N := 14) hx hb hts hinX0 hown hK hP 0 rfl rfl 8 (by decide) (hts (.fieldLink RX0 37 "KneeBench$Bench" "farmers" "I") (List.mem_of_getElem? (i := 2) rfl)) (fun _ h9 => h9) rfl dX0_tippersOf_33 ?_
      refine lv_icmp_ge (tgt := 83) hx hb dX0_tippersOf_36 (by decide) (fun c4 => ?_) (fun c4 => ?_)
      · replace h := (if_pos c4).symm.trans h
        have eo := hst _ (Option.some.inj h).symm
        subst eo
        exact kk83 H locs ls (lv_sub hl [4] rfl) hP hD hS
      · replace h := (if_neg c4).symm.trans h
        refine lv_iconst (v := 1) hx hb dX0_tippersOf_39 (by decide) ?_
        refine lv_iload hx hb dX0_tippersOf_40 (lv_at hl 5 rfl) ?_
        refine lv_ishl hx hb dX0_tippersOf_42 ?_
        refine lv_topi (fun x5 ex5 => ?_)
        replace h := lt_use h x5 ex5
        refine lv_istore (lv' := [(7, .int x5), (4, .int r3), (3, .int r2), (2, .int r1), (0, .ref h0), (5, .int q30.1), (6, .int q30.2)]) hx hb dX0_tippersOf_43 hl (by decide) rfl (fun ls hl => ?_)
        refine lv_iload_n hx hb dX0_tippersOf_45 rfl (lv_at hl 3 rfl) ?_
        refine lv_iload hx hb dX0_tippersOf_46 (lv_at hl 0 rfl) ?_
        refine lv_iand hx hb dX0_tippersOf_48 ?_
        refine lv_if_eq (tgt := 77) hx hb dX0_tippersOf_49 (by decide) (fun c6 => ?_) (fun c6 => ?_)
        · replace h := (if_pos c6).symm.trans h
          refine lv_iinc (v := (q30.2 + (1 : Int32))) (lv' := [(6, .int (q30.2 + (1 : Int32))), (7, .int x5), (4, .int r3), (3, .int r2), (2, .int r1), (0, .ref h0), (5, .int q30.1)]) hx hb dX0_tippersOf_77 hl (k := 6) rfl rfl (by decide) rfl (fun ls hl => ?_)
          refine lv_goto (tgt := 30) hx hb dX0_tippersOf_80 (by decide) ?_
          exact ih _ o (hgo _ (Option.some.inj h).symm) H locs ls (lv_sub hl [2, 3, 4, 5, 6, 0] rfl) hP hD hS kk83
        · replace h := (if_neg c6).symm.trans h
          refine lv_aload_n hx hb dX0_tippersOf_52 rfl (lv_at hl 4 rfl) ?_
          refine lv_aload_n hx hb dX0_tippersOf_53 rfl (lv_at hl 4 rfl) ?_
          refine va_get (D := D) (ci := 0) (v := .int (gi s0 12)) (C := RX0) (T := TX0) (N := 14) hx hb hts hinX0 hown hK hP 0 rfl rfl 12 (by decide) (hts (.fieldLink RX0 51 "KneeBench$Bench" "vote" "I") (List.mem_of_getElem? (i := 1) rfl)) (fun _ h9 => h9) rfl dX0_tippersOf_54 ?_
          refine lv_iload_n hx hb dX0_tippersOf_57 rfl (lv_at hl 3 rfl) ?_
          refine lv_iload_n hx hb dX0_tippersOf_58 rfl (lv_at hl 2 rfl) ?_
          refine lv_iload hx hb dX0_tippersOf_59 (lv_at hl 0 rfl) ?_
          refine lv_ixor hx hb dX0_tippersOf_61 ?_
          obtain ⟨r7, hr7, h⟩ := bd_elim h
          refine ca_i (w' := [WX0 cy h0 a0 s0]) (rn_V (As := [.int (gi s0 12), .int r1, .int (r2 ^^^ x5)]) (rest := []) ⟨hx, hb, hml, hown, hts⟩ (kX0_verdict l D cy h0 a0 s0 (gi s0 12) r1 (r2 ^^^ x5) r7 hr7 H.size) (cwV 3 hts gX0_tippersOf_X0_verdict rfl rfl rfl (by decide +kernel) ⟨Nat.le_of_ble_eq_true rfl, Nat.le_of_ble_eq_true rfl⟩) hK hN hP hD [0] rfl rfl (ci := 0) (q0 := 0) rfl rfl rfl rfl hl.1 rfl (Nat.le_of_ble_eq_true rfl) dX0_tippersOf_62 ⟨Nat.le_refl 0, Nat.le_refl 0⟩) hP hD hS hA [0] ⟨rfl, rfl, rfl, rfl⟩ (fun H locs hP hD hS => ?_)
          refine lv_iload hx hb dX0_tippersOf_65 (lv_at hl 1 rfl) ?_
          refine lv_icmp_eq (tgt := 77) hx hb dX0_tippersOf_67 (by decide) (fun c8 => ?_) (fun c8 => ?_)
          · replace h := (if_pos c8).symm.trans h
            refine lv_iinc (v := (q30.2 + (1 : Int32))) (lv' := [(6, .int (q30.2 + (1 : Int32))), (7, .int x5), (4, .int r3), (3, .int r2), (2, .int r1), (0, .ref h0), (5, .int q30.1)]) hx hb dX0_tippersOf_77 hl (k := 6) rfl rfl (by decide) rfl (fun ls hl => ?_)
            refine lv_goto (tgt := 30) hx hb dX0_tippersOf_80 (by decide) ?_
            exact ih _ o (hgo _ (Option.some.inj h).symm) H locs ls (lv_sub hl [2, 3, 4, 5, 6, 0] rfl) hP hD hS kk83
          · replace h := (if_neg c8).symm.trans h
            refine lv_iload hx hb dX0_tippersOf_70 (lv_at hl 5 rfl) ?_
            refine lv_iload hx hb dX0_tippersOf_72 (lv_at hl 0 rfl) ?_
            refine lv_ior hx hb dX0_tippersOf_74 ?_
            refine lv_topi (fun x9 ex9 => ?_)
            replace h := lt_use h x9 ex9
            refine lv_istore (lv' := [(5, .int x9), (7, .int x5), (4, .int r3), (3, .int r2), (2, .int r1), (0, .ref h0), (6, .int q30.2)]) hx hb dX0_tippersOf_75 hl (by decide) rfl (fun ls hl => ?_)
            refine lv_iinc (v := (q30.2 + (1 : Int32))) (lv' := [(6, .int (q30.2 + (1 : Int32))), (5, .int x9), (7, .int x5), (4, .int r3), (3, .int r2), (2, .int r1), (0, .ref h0)]) hx hb dX0_tippersOf_77 hl (k := 6) rfl rfl (by decide) rfl (fun ls hl => ?_)
            refine lv_goto (tgt := 30) hx hb dX0_tippersOf_80 (by decide) ?_
            exact ih _ o (hgo _ (Option.some.inj h).symm) H locs ls (lv_sub hl [3, 4, 5, 6, 1, 0] rfl) hP hD hS kk83
  obtain ⟨o30, ho30, h⟩ := bd_elim h
  obtain ⟨n30, hn30⟩ := loopF_some ho30
  refine L30 n30 _ o30 hn30 H locs ls (lv_sub hl [2, 3, 4, 5, 1, 0] rfl) hP hD hS (fun H locs ls hl hP hD hS => ?_)
  refine lv_iload hx hb dX0_tippersOf_83 (lv_at hl 0 rfl) ?_
  exact hret 85 H locs ls o30 (Option.some.inj h) hP hD hS dX0_tippersOf_85
theorem gd_X0_turn : wsX0_turn.all goodWord = true := by decide +kernel
set_option maxRecDepth 20000 in
theorem ggX0_turn_X0_hasFarmer : GoodIn wsX0_turn wsX0_hasFarmer := goodIn_by gd_X0_turn (List.forall_mem_cons.mpr ⟨List.mem_cons_of_mem _ (List.mem_append_left _ (List.mem_of_getElem? (i := 5) rfl)), List.forall_mem_append.mpr ⟨List.forall_mem_cons.mpr ⟨List.mem_cons_of_mem _ (List.mem_append_left _ (List.mem_of_getElem? (i := 6) rfl)), nowords_in⟩, (fun _ h => List.mem_cons_of_mem _ (List.mem_append_right _ (h)))⟩⟩)
set_option maxRecDepth 20000 in
theorem gX0_turn_X0_hasFarmer : GoodIn wsX0_turn (wsV RX0 94 RX0 yX0_hasFarmer wsX0_hasFarmer) := goodIn_app (goodIn_by gd_X0_turn (List.forall_mem_cons.mpr ⟨List.mem_cons_of_mem _ (List.mem_append_left _ (List.mem_of_getElem? (i := 1) rfl)), List.forall_mem_cons.mpr ⟨List.mem_cons_of_mem _ (List.mem_append_left _ (List.mem_of_getElem? (i := 2) rfl)), List.forall_mem_cons.mpr ⟨List.mem_cons_of_mem _ (List.mem_append_left _ (List.mem_of_getElem? (i := 3) rfl)), List.forall_mem_cons.mpr ⟨List.mem_cons_of_mem _ (List.mem_append_left _ (List.mem_of_getElem? (i := 4) rfl)), nowords_in⟩⟩⟩⟩)) ggX0_turn_X0_hasFarmer
theorem dX0_turn_0 : decode cX0_turn 0 = .ok (.aload_n 0, 1) := by decide +kernel
theorem dX0_turn_1 : decode cX0_turn 1 = .ok (.iload_n 1, 1) := by decide +kernel
theorem dX0_turn_2 : decode cX0_turn 2 = .ok (.invokevirtual 94, 3) := by decide +kernel
theorem dX0_turn_5 : decode cX0_turn 5 = .ok (.ifCond .eq 15, 3) := by decide +kernel
theorem dX0_turn_8 : decode cX0_turn 8 = .ok (.aload_n 0, 1) := by decide +kernel
theorem dX0_turn_9 : decode cX0_turn 9 = .ok (.getfield 31, 3) := by decide +kernel
theorem dX0_turn_12 : decode cX0_turn 12 = .ok (.iload_n 1, 1) := by decide +kernel
theorem dX0_turn_13 : decode cX0_turn 13 = .ok (.dup2, 1) := by decide +kernel
theorem dX0_turn_14 : decode cX0_turn 14 = .ok (.laload, 1) := by decide +kernel
theorem dX0_turn_15 : decode cX0_turn 15 = .ok (.lconst 1, 1) := by decide +kernel
theorem dX0_turn_16 : decode cX0_turn 16 = .ok (.iload_n 2, 1) := by decide +kernel
theorem dX0_turn_17 : decode cX0_turn 17 = .ok (.lshl, 1) := by decide +kernel
theorem dX0_turn_18 : decode cX0_turn 18 = .ok (.lxor, 1) := by decide +kernel
theorem dX0_turn_19 : decode cX0_turn 19 = .ok (.lastore, 1) := by decide +kernel
theorem dX0_turn_20 : decode cX0_turn 20 = .ok (.return_, 1) := by decide +kernel
abbrev rmX0_turn : Room := { frames := 1, cells := 0, slots := 0, locals := 21 }
set_option maxHeartbeats 4000000 in
set_option maxRecDepth 100000 in
theorem kX0_turn (l : Launch) (D : va_G) (cy : Nat → ClassId) (h0 : Nat) (a0 : Nat → Nat) (s0 : Rc) (p1 : Int32) (p2 : Int32) (res : Rc) (h : fX0_turn p1 p2 s0 = some res) : CV l D cy yX0_turn wsX0_turn rmX0_turn [.ref h0, .int p1, .int p2] (flat [WX0 cy h0 a0 s0]) (flat [WX0 cy h0 a0 res]) := by
  refine CV.of (cc := cX0_turn) (maxL := 3) (by decide) rfl (Nat.le_of_ble_eq_true rfl) ?_
  intro p e s m args below meth c A QQ ls E hr
  obtain ⟨hx, hb, hml, hown, hts, hK, hN, hP, hD, hA, hl⟩ := E
  have hret : ∀ (pc : Nat) (H : Heap) (locs : List Loc) (ls : Array Slot) (u : Rc), u = res → va_P D vwCl (flat [WX0 cy h0 a0 u]) H → va_D A (flat [WX0 cy h0 a0 u]) → va_S A s.heap H locs → decode cX0_turn pc = .ok (.return_, 1) → W p l e rmX0_turn s m args below meth c H locs 0 0 QQ (F0 m pc ls []) := by
    intro pc H locs ls u hu hP hD hS hd; subst hu; exact hr pc H locs ls hP hD hS hd
  clear hr
  have hl : lv_has ls 3 [(0, .ref h0), (1, .int p1), (2, .int p2)] := hl
  have hinX0 : ∀ w ∈ wsX00, w ∈ wsX0_turn := fun _ h => List.mem_cons_of_mem _ (List.mem_append_right _ h)
  unfold fX0_turn at h
  suffices key : ∀ (H : Heap) (locs : List Loc), va_P D vwCl (flat [WX0 cy h0 a0 s0]) H → va_S A s.heap H locs → W p l e rmX0_turn s m args below meth c H locs 0 0 QQ (F0 m 0 ls []) from key _ _ hP va_S.rf
  clear hP
  intro H locs hP hS
  refine lv_aload_n hx hb dX0_turn_0 rfl (lv_at hl 0 rfl) ?_
  refine lv_iload_n hx hb dX0_turn_1 rfl (lv_at hl 1 rfl) ?_
  refine ca_z (w' := [WX0 cy h0 a0 s0]) (rn_V (As := [.int p1]) (rest := []) ⟨hx, hb, hml, hown, hts⟩ (kX0_hasFarmer l D cy h0 a0 s0 p1 _ rfl H.size) (cwV 1 hts gX0_turn_X0_hasFarmer rfl rfl rfl (by decide +kernel) ⟨Nat.le_of_ble_eq_true rfl, Nat.le_of_ble_eq_true rfl⟩) hK hN hP hD [0] rfl rfl (ci := 0) (q0 := 0) rfl rfl rfl rfl hl.1 rfl (Nat.le_of_ble_eq_true rfl) dX0_turn_2 ⟨Nat.le_refl 0, Nat.le_refl 0⟩) hP hD hS hA [0] ⟨rfl, rfl, rfl, rfl⟩ (fun b1 H locs hP hD hS => ?_)
  refine lv_if_eq (tgt := 20) hx hb dX0_turn_5 (by decide) (fun c2 => ?_) (fun c2 => ?_)
  · replace h := (if_pos c2).symm.trans h
    exact hret 20 H locs ls s0 (Option.some.inj h) hP hD hS dX0_turn_20
  · replace h := (if_neg c2).symm.trans h
    refine lv_aload_n hx hb dX0_turn_8 rfl (lv_at hl 0 rfl) ?_
    refine va_get (D := D) (ci := 0) (v := .ref (a0 6)) (C := RX0) (T := TX0) (N := 14) hx hb hts hinX0 hown hK hP 0 rfl rfl 6 (by decide) (hts (.fieldLink RX0 31 "KneeBench$Bench" "twinges" "[J") (List.mem_of_getElem? (i := 1) rfl)) (fun _ h9 => h9) rfl dX0_turn_9 ?_
    refine lv_iload_n hx hb dX0_turn_12 rfl (lv_at hl 1 rfl) ?_
    refine lv_dup2_11 hx hb dX0_turn_13 rfl rfl ?_
    obtain ⟨g3, h⟩ := gd_elim h
    refine va_lald hx hb hK hP 7 2 rfl rfl (inb_in g3) dX0_turn_14 ?_
    refine lv_lconst (v := 1) hx hb dX0_turn_15 (by decide) ?_
    refine lv_iload_n hx hb dX0_turn_16 rfl (lv_at hl 2 rfl) ?_
    refine lv_lshl hx hb dX0_turn_17 rfl ?_
    refine lv_lxor hx hb dX0_turn_18 ?_
    obtain ⟨s0_4, es, h⟩ := lt_elim h
    refine va_last hx hb hK hP hD hS 7 2 rfl rfl (inb_in g3) dX0_turn_19 (fun H locs hP hD hS => ?_)
    have hP : va_P D vwCl (flat [WX0 cy h0 a0 s0_4]) H := by rw [es]; exact hP
    have hD : va_D A (flat [WX0 cy h0 a0 s0_4]) := by rw [es]; exact hD
    clear es
    exact hret 20 H locs ls s0_4 (Option.some.inj h) hP hD hS dX0_turn_20
