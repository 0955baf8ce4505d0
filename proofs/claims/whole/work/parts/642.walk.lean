theorem gd_X11_hay : wsX11_hay.all goodWord = true := by decide +kernel
set_option maxRecDepth 20000 in
theorem ggX11_hay_X11_isAsked : GoodIn wsX11_hay wsX11_isAsked := goodIn_by gd_X11_hay (List.forall_mem_cons.mpr ⟨List.mem_cons_of_mem _ (List.mem_append_left _ (List.mem_append_left _ (List.mem_of_getElem? (i := 8) rfl))), nowords_in⟩)
set_option maxRecDepth 20000 in
theorem gX11_hay_X11_isAsked : GoodIn wsX11_hay (va_wsS RX11 304 yX11_isAsked wsX11_isAsked) := goodIn_app (goodIn_by gd_X11_hay (List.forall_mem_cons.mpr ⟨List.mem_cons_of_mem _ (List.mem_append_left _ (List.mem_append_left _ (List.mem_of_getElem? (i := 5) rfl))), List.forall_mem_cons.mpr ⟨List.mem_cons_of_mem _ (List.mem_append_left _ (List.mem_append_left _ (List.mem_of_getElem? (i := 6) rfl))), List.forall_mem_cons.mpr ⟨List.mem_cons_of_mem _ (List.mem_append_left _ (List.mem_append_left _ (List.mem_of_getElem? (i := 7) rfl))), nowords_in⟩⟩⟩)) ggX11_hay_X11_isAsked
set_option maxRecDepth 20000 in
theorem ggX11_hay_X11_isFrom : GoodIn wsX11_hay wsX11_isFrom := goodIn_by gd_X11_hay (List.forall_mem_cons.mpr ⟨List.mem_cons_of_mem _ (List.mem_append_left _ (List.mem_append_left _ (List.mem_of_getElem? (i := 11) rfl))), nowords_in⟩)
set_option maxRecDepth 20000 in
theorem gX11_hay_X11_isFrom : GoodIn wsX11_hay (va_wsS RX11 282 yX11_isFrom wsX11_isFrom) := goodIn_app (goodIn_by gd_X11_hay (List.forall_mem_cons.mpr ⟨List.mem_cons_of_mem _ (List.mem_append_left _ (List.mem_append_left _ (List.mem_of_getElem? (i := 9) rfl))), List.forall_mem_cons.mpr ⟨List.mem_cons_of_mem _ (List.mem_append_left _ (List.mem_append_left _ (List.mem_of_getElem? (i := 10) rfl))), List.forall_mem_cons.mpr ⟨List.mem_cons_of_mem _ (List.mem_append_left _ (List.mem_append_left _ (List.mem_of_getElem? (i := 7) rfl))), nowords_in⟩⟩⟩)) ggX11_hay_X11_isFrom
set_option maxRecDepth 20000 in
theorem ggX11_hay_X11_is : GoodIn wsX11_hay wsX11_is := goodIn_by gd_X11_hay (List.forall_mem_cons.mpr ⟨List.mem_cons_of_mem _ (List.mem_append_left _ (List.mem_append_left _ (List.mem_of_getElem? (i := 15) rfl))), List.forall_mem_append.mpr ⟨List.forall_mem_cons.mpr ⟨List.mem_cons_of_mem _ (List.mem_append_left _ (List.mem_append_left _ (List.mem_of_getElem? (i := 16) rfl))), nowords_in⟩, (fun _ h => List.mem_cons_of_mem _ (List.mem_append_right _ (h)))⟩⟩)
set_option maxRecDepth 20000 in
theorem gX11_hay_X11_is : GoodIn wsX11_hay (wsV RX11 82 RX11 yX11_is wsX11_is) := goodIn_app (goodIn_by gd_X11_hay (List.forall_mem_cons.mpr ⟨List.mem_cons_of_mem _ (List.mem_append_left _ (List.mem_append_left _ (List.mem_of_getElem? (i := 12) rfl))), List.forall_mem_cons.mpr ⟨List.mem_cons_of_mem _ (List.mem_append_left _ (List.mem_append_left _ (List.mem_of_getElem? (i := 13) rfl))), List.forall_mem_cons.mpr ⟨List.mem_cons_of_mem _ (List.mem_append_left _ (List.mem_append_left _ (List.mem_of_getElem? (i := 14) rfl))), List.forall_mem_cons.mpr ⟨List.mem_cons_of_mem _ (List.mem_append_left _ (List.mem_append_left _ (List.mem_of_getElem? (i := 7) rfl))), nowords_in⟩⟩⟩⟩)) ggX11_hay_X11_is
set_option maxRecDepth 20000 in
theorem ggX11_hay_X11_weighs : GoodIn wsX11_hay wsX11_weighs := goodIn_by gd_X11_hay (List.forall_mem_cons.mpr ⟨List.mem_cons_of_mem _ (List.mem_append_left _ (List.mem_append_left _ (List.mem_of_getElem? (i := 20) rfl))), List.forall_mem_append.mpr ⟨List.forall_mem_append.mpr ⟨List.forall_mem_cons.mpr ⟨List.mem_cons_of_mem _ (List.mem_append_left _ (List.mem_append_left _ (List.mem_of_getElem? (i := 2) rfl))), List.forall_mem_cons.mpr ⟨List.mem_cons_of_mem _ (List.mem_append_left _ (List.mem_append_left _ (List.mem_of_getElem? (i := 3) rfl))), List.forall_mem_cons.mpr ⟨List.mem_cons_of_mem _ (List.mem_append_left _ (List.mem_append_left _ (List.mem_of_getElem? (i := 21) rfl))), List.forall_mem_cons.mpr ⟨List.mem_cons_of_mem _ (List.mem_append_left _ (List.mem_append_left _ (List.mem_of_getElem? (i := 22) rfl))), List.forall_mem_cons.mpr ⟨List.mem_cons_of_mem _ (List.mem_append_left _ (List.mem_append_left _ (List.mem_of_getElem? (i := 23) rfl))), List.forall_mem_cons.mpr ⟨List.mem_cons_of_mem _ (List.mem_append_left _ (List.mem_append_left _ (List.mem_of_getElem? (i := 7) rfl))), List.forall_mem_cons.mpr ⟨List.mem_cons_of_mem _ (List.mem_append_left _ (List.mem_append_right _ (List.mem_append_left _ (List.mem_of_getElem? (i := 0) rfl)))), List.forall_mem_cons.mpr ⟨List.mem_cons_of_mem _ (List.mem_append_left _ (List.mem_append_right _ (List.mem_append_left _ (List.mem_of_getElem? (i := 1) rfl)))), List.forall_mem_cons.mpr ⟨List.mem_cons_of_mem _ (List.mem_append_left _ (List.mem_append_right _ (List.mem_append_left _ (List.mem_of_getElem? (i := 2) rfl)))), List.forall_mem_cons.mpr ⟨List.mem_cons_of_mem _ (List.mem_append_left _ (List.mem_append_right _ (List.mem_append_left _ (List.mem_of_getElem? (i := 3) rfl)))), List.forall_mem_cons.mpr ⟨List.mem_cons_of_mem _ (List.mem_append_left _ (List.mem_append_right _ (List.mem_append_left _ (List.mem_of_getElem? (i := 4) rfl)))), List.forall_mem_cons.mpr ⟨List.mem_cons_of_mem _ (List.mem_append_left _ (List.mem_append_right _ (List.mem_append_left _ (List.mem_of_getElem? (i := 5) rfl)))), List.forall_mem_cons.mpr ⟨List.mem_cons_of_mem _ (List.mem_append_left _ (List.mem_append_right _ (List.mem_append_left _ (List.mem_of_getElem? (i := 6) rfl)))), List.forall_mem_cons.mpr ⟨List.mem_cons_of_mem _ (List.mem_append_left _ (List.mem_append_right _ (List.mem_append_left _ (List.mem_of_getElem? (i := 7) rfl)))), List.forall_mem_cons.mpr ⟨List.mem_cons_of_mem _ (List.mem_append_left _ (List.mem_append_right _ (List.mem_append_left _ (List.mem_of_getElem? (i := 8) rfl)))), List.forall_mem_cons.mpr ⟨List.mem_cons_of_mem _ (List.mem_append_left _ (List.mem_append_right _ (List.mem_append_left _ (List.mem_of_getElem? (i := 9) rfl)))), List.forall_mem_cons.mpr ⟨List.mem_cons_of_mem _ (List.mem_append_left _ (List.mem_append_right _ (List.mem_append_left _ (List.mem_of_getElem? (i := 10) rfl)))), List.forall_mem_cons.mpr ⟨List.mem_cons_of_mem _ (List.mem_append_left _ (List.mem_append_right _ (List.mem_append_left _ (List.mem_of_getElem? (i := 11) rfl)))), List.forall_mem_cons.mpr ⟨List.mem_cons_of_mem _ (List.mem_append_left _ (List.mem_append_right _ (List.mem_append_left _ (List.mem_of_getElem? (i := 12) rfl)))), List.forall_mem_cons.mpr ⟨List.mem_cons_of_mem _ (List.mem_append_left _ (List.mem_append_right _ (List.mem_append_left _ (List.mem_of_getElem? (i := 13) rfl)))), List.forall_mem_cons.mpr ⟨List.mem_cons_of_mem _ (List.mem_append_left _ (List.mem_append_right _ (List.mem_append_left _ (List.mem_of_getElem? (i := 14) rfl)))), List.forall_mem_cons.mpr ⟨List.mem_cons_of_mem _ (List.mem_append_left _ (List.mem_append_right _ (List.mem_append_left _ (List.mem_of_getElem? (i := 15) rfl)))), List.forall_mem_cons.mpr ⟨List.mem_cons_of_mem _ (List.mem_append_left _ (List.mem_append_right _ (List.mem_append_left _ (List.mem_of_getElem? (i := 16) rfl)))), List.forall_mem_cons.mpr ⟨List.mem_cons_of_mem _ (List.mem_append_left _ (List.mem_append_right _ (List.mem_append_left _ (List.mem_of_getElem? (i := 17) rfl)))), nowords_in⟩⟩⟩⟩⟩⟩⟩⟩⟩⟩⟩⟩⟩⟩⟩⟩⟩⟩⟩⟩⟩⟩⟩⟩, List.forall_mem_cons.mpr ⟨List.mem_cons_of_mem _ (List.mem_append_left _ (List.mem_append_right _ (List.mem_append_left _ (List.mem_of_getElem? (i := 18) rfl)))), List.forall_mem_cons.mpr ⟨List.mem_cons_of_mem _ (List.mem_append_left _ (List.mem_append_right _ (List.mem_append_left _ (List.mem_of_getElem? (i := 19) rfl)))), List.forall_mem_cons.mpr ⟨List.mem_cons_of_mem _ (List.mem_append_left _ (List.mem_append_right _ (List.mem_append_left _ (List.mem_of_getElem? (i := 20) rfl)))), List.forall_mem_cons.mpr ⟨List.mem_cons_of_mem _ (List.mem_append_left _ (List.mem_append_right _ (List.mem_append_left _ (List.mem_of_getElem? (i := 21) rfl)))), nowords_in⟩⟩⟩⟩⟩, (fun _ h => List.mem_cons_of_mem _ (List.mem_append_right _ (h)))⟩⟩)
set_option maxRecDepth 20000 in
theorem gX11_hay_X11_weighs : GoodIn wsX11_hay (wsV RX11 367 RX11 yX11_weighs wsX11_weighs) := goodIn_app (goodIn_by gd_X11_hay (List.forall_mem_cons.mpr ⟨List.mem_cons_of_mem _ (List.mem_append_left _ (List.mem_append_left _ (List.mem_of_getElem? (i := 17) rfl))), List.forall_mem_cons.mpr ⟨List.mem_cons_of_mem _ (List.mem_append_left _ (List.mem_append_left _ (List.mem_of_getElem? (i := 18) rfl))), List.forall_mem_cons.mpr ⟨List.mem_cons_of_mem _ (List.mem_append_left _ (List.mem_append_left _ (List.mem_of_getElem? (i := 19) rfl))), List.forall_mem_cons.mpr ⟨List.mem_cons_of_mem _ (List.mem_append_left _ (List.mem_append_left _ (List.mem_of_getElem? (i := 7) rfl))), nowords_in⟩⟩⟩⟩)) ggX11_hay_X11_weighs
set_option maxRecDepth 20000 in
theorem ggX11_hay_X11_tellsBy : GoodIn wsX11_hay wsX11_tellsBy := goodIn_by gd_X11_hay (List.forall_mem_cons.mpr ⟨List.mem_cons_of_mem _ (List.mem_append_left _ (List.mem_append_right _ (List.mem_append_right _ (List.mem_of_getElem? (i := 1) rfl)))), List.forall_mem_append.mpr ⟨List.forall_mem_cons.mpr ⟨List.mem_cons_of_mem _ (List.mem_append_left _ (List.mem_append_right _ (List.mem_append_right _ (List.mem_of_getElem? (i := 2) rfl)))), List.forall_mem_cons.mpr ⟨List.mem_cons_of_mem _ (List.mem_append_left _ (List.mem_append_right _ (List.mem_append_right _ (List.mem_of_getElem? (i := 3) rfl)))), List.forall_mem_cons.mpr ⟨List.mem_cons_of_mem _ (List.mem_append_left _ (List.mem_append_left _ (List.mem_of_getElem? (i := 12) rfl))), List.forall_mem_cons.mpr ⟨List.mem_cons_of_mem _ (List.mem_append_left _ (List.mem_append_left _ (List.mem_of_getElem? (i := 13) rfl))), List.forall_mem_cons.mpr ⟨List.mem_cons_of_mem _ (List.mem_append_left _ (List.mem_append_left _ (List.mem_of_getElem? (i := 14) rfl))), List.forall_mem_cons.mpr ⟨List.mem_cons_of_mem _ (List.mem_append_left _ (List.mem_append_left _ (List.mem_of_getElem? (i := 7) rfl))), List.forall_mem_cons.mpr ⟨List.mem_cons_of_mem _ (List.mem_append_left _ (List.mem_append_left _ (List.mem_of_getElem? (i := 15) rfl))), List.forall_mem_cons.mpr ⟨List.mem_cons_of_mem _ (List.mem_append_left _ (List.mem_append_left _ (List.mem_of_getElem? (i := 16) rfl))), nowords_in⟩⟩⟩⟩⟩⟩⟩⟩, (fun _ h => List.mem_cons_of_mem _ (List.mem_append_right _ (h)))⟩⟩)
set_option maxRecDepth 20000 in
theorem gX11_hay_X11_tellsBy : GoodIn wsX11_hay (wsV RX11 334 RX11 yX11_tellsBy wsX11_tellsBy) := goodIn_app (goodIn_by gd_X11_hay (List.forall_mem_cons.mpr ⟨List.mem_cons_of_mem _ (List.mem_append_left _ (List.mem_append_right _ (List.mem_append_left _ (List.mem_of_getElem? (i := 22) rfl)))), List.forall_mem_cons.mpr ⟨List.mem_cons_of_mem _ (List.mem_append_left _ (List.mem_append_right _ (List.mem_append_left _ (List.mem_of_getElem? (i := 23) rfl)))), List.forall_mem_cons.mpr ⟨List.mem_cons_of_mem _ (List.mem_append_left _ (List.mem_append_right _ (List.mem_append_right _ (List.mem_of_getElem? (i := 0) rfl)))), List.forall_mem_cons.mpr ⟨List.mem_cons_of_mem _ (List.mem_append_left _ (List.mem_append_left _ (List.mem_of_getElem? (i := 7) rfl))), nowords_in⟩⟩⟩⟩)) ggX11_hay_X11_tellsBy
theorem dX11_hay_0 : decode cX11_hay 0 = .ok (.iload_n 1, 1) := by decide +kernel
theorem dX11_hay_1 : decode cX11_hay 1 = .ok (.invokestatic 304, 3) := by decide +kernel
theorem dX11_hay_4 : decode cX11_hay 4 = .ok (.ifCond .eq 37, 3) := by decide +kernel
theorem dX11_hay_7 : decode cX11_hay 7 = .ok (.iload_n 2, 1) := by decide +kernel
theorem dX11_hay_8 : decode cX11_hay 8 = .ok (.i2l, 1) := by decide +kernel
theorem dX11_hay_9 : decode cX11_hay 9 = .ok (.lconst 1, 1) := by decide +kernel
theorem dX11_hay_10 : decode cX11_hay 10 = .ok (.ldc2_w 352, 3) := by decide +kernel
theorem dX11_hay_13 : decode cX11_hay 13 = .ok (.invokestatic 282, 3) := by decide +kernel
theorem dX11_hay_16 : decode cX11_hay 16 = .ok (.ifCond .eq 25, 3) := by decide +kernel
theorem dX11_hay_19 : decode cX11_hay 19 = .ok (.iload_n 1, 1) := by decide +kernel
theorem dX11_hay_20 : decode cX11_hay 20 = .ok (.iload_n 2, 1) := by decide +kernel
theorem dX11_hay_21 : decode cX11_hay 21 = .ok (.iadd, 1) := by decide +kernel
theorem dX11_hay_22 : decode cX11_hay 22 = .ok (.iconst 1, 1) := by decide +kernel
theorem dX11_hay_23 : decode cX11_hay 23 = .ok (.isub, 1) := by decide +kernel
theorem dX11_hay_24 : decode cX11_hay 24 = .ok (.bipush 62, 2) := by decide +kernel
theorem dX11_hay_26 : decode cX11_hay 26 = .ok (.if_icmp .gt 15, 3) := by decide +kernel
theorem dX11_hay_29 : decode cX11_hay 29 = .ok (.iload_n 3, 1) := by decide +kernel
theorem dX11_hay_30 : decode cX11_hay 30 = .ok (.i2l, 1) := by decide +kernel
theorem dX11_hay_31 : decode cX11_hay 31 = .ok (.lconst 1, 1) := by decide +kernel
theorem dX11_hay_32 : decode cX11_hay 32 = .ok (.ldc2_w 365, 3) := by decide +kernel
theorem dX11_hay_35 : decode cX11_hay 35 = .ok (.invokestatic 282, 3) := by decide +kernel
theorem dX11_hay_38 : decode cX11_hay 38 = .ok (.ifCond .ne 9, 3) := by decide +kernel
theorem dX11_hay_41 : decode cX11_hay 41 = .ok (.aload_n 0, 1) := by decide +kernel
theorem dX11_hay_42 : decode cX11_hay 42 = .ok (.iconst 1, 1) := by decide +kernel
theorem dX11_hay_43 : decode cX11_hay 43 = .ok (.invokevirtual 82, 3) := by decide +kernel
theorem dX11_hay_46 : decode cX11_hay 46 = .ok (.ireturn, 1) := by decide +kernel
theorem dX11_hay_47 : decode cX11_hay 47 = .ok (.lconst 1, 1) := by decide +kernel
theorem dX11_hay_48 : decode cX11_hay 48 = .ok (.lstore 4, 2) := by decide +kernel
theorem dX11_hay_50 : decode cX11_hay 50 = .ok (.lconst 1, 1) := by decide +kernel
theorem dX11_hay_51 : decode cX11_hay 51 = .ok (.lstore 6, 2) := by decide +kernel
theorem dX11_hay_53 : decode cX11_hay 53 = .ok (.iconst 0, 1) := by decide +kernel
theorem dX11_hay_54 : decode cX11_hay 54 = .ok (.istore 8, 2) := by decide +kernel
theorem dX11_hay_56 : decode cX11_hay 56 = .ok (.iload 8, 2) := by decide +kernel
theorem dX11_hay_58 : decode cX11_hay 58 = .ok (.iload_n 2, 1) := by decide +kernel
theorem dX11_hay_59 : decode cX11_hay 59 = .ok (.if_icmp .ge 70, 3) := by decide +kernel
theorem dX11_hay_62 : decode cX11_hay 62 = .ok (.aload_n 0, 1) := by decide +kernel
theorem dX11_hay_63 : decode cX11_hay 63 = .ok (.iload_n 1, 1) := by decide +kernel
theorem dX11_hay_64 : decode cX11_hay 64 = .ok (.iload 8, 2) := by decide +kernel
theorem dX11_hay_66 : decode cX11_hay 66 = .ok (.iadd, 1) := by decide +kernel
theorem dX11_hay_67 : decode cX11_hay 67 = .ok (.iload_n 3, 1) := by decide +kernel
theorem dX11_hay_68 : decode cX11_hay 68 = .ok (.invokevirtual 367, 3) := by decide +kernel
theorem dX11_hay_71 : decode cX11_hay 71 = .ok (.aload_n 0, 1) := by decide +kernel
theorem dX11_hay_72 : decode cX11_hay 72 = .ok (.getfield 359, 3) := by decide +kernel
theorem dX11_hay_75 : decode cX11_hay 75 = .ok (.aload_n 0, 1) := by decide +kernel
theorem dX11_hay_76 : decode cX11_hay 76 = .ok (.getfield 362, 3) := by decide +kernel
theorem dX11_hay_79 : decode cX11_hay 79 = .ok (.ladd, 1) := by decide +kernel
theorem dX11_hay_80 : decode cX11_hay 80 = .ok (.lconst 0, 1) := by decide +kernel
theorem dX11_hay_81 : decode cX11_hay 81 = .ok (.lcmp, 1) := by decide +kernel
theorem dX11_hay_82 : decode cX11_hay 82 = .ok (.ifCond .ne 10, 3) := by decide +kernel
theorem dX11_hay_85 : decode cX11_hay 85 = .ok (.aload_n 0, 1) := by decide +kernel
theorem dX11_hay_86 : decode cX11_hay 86 = .ok (.bipush 7, 2) := by decide +kernel
theorem dX11_hay_88 : decode cX11_hay 88 = .ok (.invokevirtual 82, 3) := by decide +kernel
theorem dX11_hay_91 : decode cX11_hay 91 = .ok (.ireturn, 1) := by decide +kernel
theorem dX11_hay_92 : decode cX11_hay 92 = .ok (.lload 4, 2) := by decide +kernel
theorem dX11_hay_94 : decode cX11_hay 94 = .ok (.aload_n 0, 1) := by decide +kernel
theorem dX11_hay_95 : decode cX11_hay 95 = .ok (.getfield 362, 3) := by decide +kernel
theorem dX11_hay_98 : decode cX11_hay 98 = .ok (.ldc2_w 371, 3) := by decide +kernel
theorem dX11_hay_101 : decode cX11_hay 101 = .ok (.lmul, 1) := by decide +kernel
theorem dX11_hay_102 : decode cX11_hay 102 = .ok (.aload_n 0, 1) := by decide +kernel
theorem dX11_hay_103 : decode cX11_hay 103 = .ok (.getfield 359, 3) := by decide +kernel
theorem dX11_hay_106 : decode cX11_hay 106 = .ok (.aload_n 0, 1) := by decide +kernel
theorem dX11_hay_107 : decode cX11_hay 107 = .ok (.getfield 362, 3) := by decide +kernel
theorem dX11_hay_110 : decode cX11_hay 110 = .ok (.ladd, 1) := by decide +kernel
theorem dX11_hay_111 : decode cX11_hay 111 = .ok (.ldiv, 1) := by decide +kernel
theorem dX11_hay_112 : decode cX11_hay 112 = .ok (.lmul, 1) := by decide +kernel
theorem dX11_hay_113 : decode cX11_hay 113 = .ok (.lstore 4, 2) := by decide +kernel
theorem dX11_hay_115 : decode cX11_hay 115 = .ok (.lload 6, 2) := by decide +kernel
theorem dX11_hay_117 : decode cX11_hay 117 = .ok (.ldc2_w 371, 3) := by decide +kernel
theorem dX11_hay_120 : decode cX11_hay 120 = .ok (.lmul, 1) := by decide +kernel
theorem dX11_hay_121 : decode cX11_hay 121 = .ok (.lstore 6, 2) := by decide +kernel
theorem dX11_hay_123 : decode cX11_hay 123 = .ok (.iinc 8 1, 3) := by decide +kernel
theorem dX11_hay_126 : decode cX11_hay 126 = .ok (.goto (-70), 3) := by decide +kernel
theorem dX11_hay_129 : decode cX11_hay 129 = .ok (.aload_n 0, 1) := by decide +kernel
theorem dX11_hay_130 : decode cX11_hay 130 = .ok (.lload 4, 2) := by decide +kernel
theorem dX11_hay_132 : decode cX11_hay 132 = .ok (.lload 6, 2) := by decide +kernel
theorem dX11_hay_134 : decode cX11_hay 134 = .ok (.invokevirtual 334, 3) := by decide +kernel
theorem dX11_hay_137 : decode cX11_hay 137 = .ok (.ireturn, 1) := by decide +kernel
abbrev rmX11_hay : Room := { frames := 4, cells := 0, slots := 0, locals := 91 }
set_option maxHeartbeats 4000000 in
set_option maxRecDepth 100000 in
theorem kX11_hay (l : Launch) (D : va_G) (cy : Nat → ClassId) (h0 : Nat) (a0 : Nat → Nat) (s0 : Rc) (p1 : Int32) (p2 : Int32) (p3 : Int32) (res : Int32 × Rc) (h : fX11_hay p1 p2 p3 s0 = some res) : CZ l D cy yX11_hay wsX11_hay rmX11_hay [.ref h0, .int p1, .int p2, .int p3] (flat [WX11 cy h0 a0 s0]) (flat [WX11 cy h0 a0 res.2]) res.1 := by
  refine CZ.of (cc := cX11_hay) (maxL := 9) (by decide) rfl (Nat.le_of_ble_eq_true rfl) ?_
  intro p e s m args below meth c A QQ ls E hr
  obtain ⟨hx, hb, hml, hown, hts, hK, hN, hP, hD, hA, hl⟩ := E
  have hret : ∀ (pc : Nat) (H : Heap) (locs : List Loc) (ls : Array Slot) (u : Int32 × Rc), u = res → va_P D vwCl (flat [WX11 cy h0 a0 u.2]) H → va_D A (flat [WX11 cy h0 a0 u.2]) → va_S A s.heap H locs → isb u.1 = true → decode cX11_hay pc = .ok (.ireturn, 1) → W p l e rmX11_hay s m args below meth c H locs 0 0 QQ (F0 m pc ls [.int u.1]) := by
    intro pc H locs ls u hu hP hD hS hz hd; subst hu; exact hr pc H locs ls _ rfl hP hD hS hz hd
  clear hr
  have hl : lv_has ls 9 [(0, .ref h0), (1, .int p1), (2, .int p2), (3, .int p3)] := hl
  have hinX11 : ∀ w ∈ wsX110, w ∈ wsX11_hay := fun _ h => List.mem_cons_of_mem _ (List.mem_append_right _ h)
  unfold fX11_hay at h
  suffices key : ∀ (H : Heap) (locs : List Loc), va_P D vwCl (flat [WX11 cy h0 a0 s0]) H → va_S A s.heap H locs → W p l e rmX11_hay s m args below meth c H locs 0 0 QQ (F0 m 0 ls []) from key _ _ hP va_S.rf
  clear hP
  intro H locs hP hS
  refine lv_iload_n hx hb dX11_hay_0 rfl (lv_at hl 1 rfl) ?_
  refine ca_z (w' := [WX11 cy h0 a0 s0]) (rn_S (As := [.int p1]) (rest := []) ⟨hx, hb, hml, hown, hts⟩ (kX11_isAsked l D cy p1 _ rfl H.size) (va_cwS 1 hts gX11_hay_X11_isAsked rfl rfl rfl (by decide +kernel) ⟨Nat.le_of_ble_eq_true rfl, Nat.le_of_ble_eq_true rfl⟩) hK hN hP hD [] rfl rfl rfl hl.1 rfl (Nat.le_of_ble_eq_true rfl) dX11_hay_1 ⟨Nat.le_refl 0, Nat.le_refl 0⟩) hP hD hS hA [] ⟨rfl, rfl, rfl, rfl⟩ (fun b1 H locs hP hD hS => ?_)
  refine lv_if_eq (tgt := 41) hx hb dX11_hay_4 (by decide) (fun c2 => ?_) (fun c2 => ?_)
  · replace h := (if_pos c2).symm.trans h
    refine lv_aload_n hx hb dX11_hay_41 rfl (lv_at hl 0 rfl) ?_
    refine lv_iconst (v := 1) hx hb dX11_hay_42 (by decide) ?_
    obtain ⟨r3, hr3, h⟩ := lt_elim h
    refine ca_z (w' := [WX11 cy h0 a0 r3.2]) (rn_V (As := [.int (1 : Int32)]) (rest := []) ⟨hx, hb, hml, hown, hts⟩ (kX11_is l D cy h0 a0 s0 (1 : Int32) r3 hr3.symm H.size) (cwV 1 hts gX11_hay_X11_is rfl rfl rfl (by decide +kernel) ⟨Nat.le_of_ble_eq_true rfl, Nat.le_of_ble_eq_true rfl⟩) hK hN hP hD [0] rfl rfl (ci := 11) (q0 := 0) rfl rfl rfl rfl hl.1 rfl (Nat.le_of_ble_eq_true rfl) dX11_hay_43 ⟨Nat.le_refl 0, Nat.le_refl 0⟩) hP hD hS hA [0] ⟨rfl, rfl, rfl, rfl⟩ (fun b4 H locs hP hD hS => ?_)
    exact hret 46 H locs ls (r3.1, r3.2) (Option.some.inj h) hP hD hS b4 dX11_hay_46
  · replace h := (if_neg c2).symm.trans h
    refine lv_iload_n hx hb dX11_hay_7 rfl (lv_at hl 2 rfl) ?_
    refine lv_i2l hx hb dX11_hay_8 rfl ?_
    refine lv_lconst (v := 1) hx hb dX11_hay_9 (by decide) ?_
    refine lv_ldc2 (v := 3) hx hb hown (hts (.constantLong RX11 352 (3)) (List.mem_of_getElem? (i := 1) rfl)) dX11_hay_10 ?_
    refine ca_z (w' := [WX11 cy h0 a0 s0]) (rn_S (As := [.long p2.toInt64, .long (1 : Int64), .long (3 : Int64)]) (rest := []) ⟨hx, hb, hml, hown, hts⟩ (kX11_isFrom l D cy p2.toInt64 (1 : Int64) (3 : Int64) _ rfl H.size) (va_cwS 3 hts gX11_hay_X11_isFrom rfl rfl rfl (by decide +kernel) ⟨Nat.le_of_ble_eq_true rfl, Nat.le_of_ble_eq_true rfl⟩) hK hN hP hD [] rfl rfl rfl hl.1 rfl (Nat.le_of_ble_eq_true rfl) dX11_hay_13 ⟨Nat.le_refl 0, Nat.le_refl 0⟩) hP hD hS hA [] ⟨rfl, rfl, rfl, rfl⟩ (fun b5 H locs hP hD hS => ?_)
    refine lv_if_eq (tgt := 41) hx hb dX11_hay_16 (by decide) (fun c6 => ?_) (fun c6 => ?_)
    · replace h := (if_pos c6).symm.trans h
      refine lv_aload_n hx hb dX11_hay_41 rfl (lv_at hl 0 rfl) ?_
      refine lv_iconst (v := 1) hx hb dX11_hay_42 (by decide) ?_
      obtain ⟨r7, hr7, h⟩ := lt_elim h
      refine ca_z (w' := [WX11 cy h0 a0 r7.2]) (rn_V (As := [.int (1 : Int32)]) (rest := []) ⟨hx, hb, hml, hown, hts⟩ (kX11_is l D cy h0 a0 s0 (1 : Int32) r7 hr7.symm H.size) (cwV 1 hts gX11_hay_X11_is rfl rfl rfl (by decide +kernel) ⟨Nat.le_of_ble_eq_true rfl, Nat.le_of_ble_eq_true rfl⟩) hK hN hP hD [0] rfl rfl (ci := 11) (q0 := 0) rfl rfl rfl rfl hl.1 rfl (Nat.le_of_ble_eq_true rfl) dX11_hay_43 ⟨Nat.le_refl 0, Nat.le_refl 0⟩) hP hD hS hA [0] ⟨rfl, rfl, rfl, rfl⟩ (fun b8 H locs hP hD hS => ?_)
      exact hret 46 H locs ls (r7.1, r7.2) (Option.some.inj h) hP hD hS b8 dX11_hay_46
    · replace h := (if_neg c6).symm.trans h
      refine lv_iload_n hx hb dX11_hay_19 rfl (lv_at hl 1 rfl) ?_
      refine lv_iload_n hx hb dX11_hay_20 rfl (lv_at hl 2 rfl) ?_
      refine lv_iadd hx hb dX11_hay_21 ?_
      refine lv_iconst (v := 1) hx hb dX11_hay_22 (by decide) ?_
      refine lv_isub hx hb dX11_hay_23 ?_
      refine lv_bipush (v := 62) hx hb dX11_hay_24 (by decide) ?_
      refine lv_icmp_gt (tgt := 41) hx hb dX11_hay_26 (by decide) (fun c9 => ?_) (fun c9 => ?_)
      · replace h := (if_pos c9).symm.trans h
        refine lv_aload_n hx hb dX11_hay_41 rfl (lv_at hl 0 rfl) ?_
        refine lv_iconst (v := 1) hx hb dX11_hay_42 (by decide) ?_
        obtain ⟨r10, hr10, h⟩ := lt_elim h
        refine ca_z (w' := [WX11 cy h0 a0 r10.2]) (rn_V (As := [.int (1 : Int32)]) (rest := []) ⟨hx, hb, hml, hown, hts⟩ (kX11_is l D cy h0 a0 s0 (1 : Int32) r10 hr10.symm H.size) (cwV 1 hts gX11_hay_X11_is rfl rfl rfl (by decide +kernel) ⟨Nat.le_of_ble_eq_true rfl, Nat.le_of_ble_eq_true rfl⟩) hK hN hP hD [0] rfl rfl (ci := 11) (q0 := 0) rfl rfl rfl rfl hl.1 rfl (Nat.le_of_ble_eq_true rfl) dX11_hay_43 ⟨Nat.le_refl 0, Nat.le_refl 0⟩) hP hD hS hA [0] ⟨rfl, rfl, rfl, rfl⟩ (fun b11 H locs hP hD hS => ?_)
        exact hret 46 H locs ls (r10.1, r10.2) (Option.some.inj h) hP hD hS b11 dX11_hay_46
      · replace h := (if_neg c9).symm.trans h
        refine lv_iload_n hx hb dX11_hay_29 rfl (lv_at hl 3 rfl) ?_
        refine lv_i2l hx hb dX11_hay_30 rfl ?_
        refine lv_lconst (v := 1) hx hb dX11_hay_31 (by decide) ?_
        refine lv_ldc2 (v := 15) hx hb hown (hts (.constantLong RX11 365 (15)) (List.mem_of_getElem? (i := 2) rfl)) dX11_hay_32 ?_
        refine ca_z (w' := [WX11 cy h0 a0 s0]) (rn_S (As := [.long p3.toInt64, .long (1 : Int64), .long (15 : Int64)]) (rest := []) ⟨hx, hb, hml, hown, hts⟩ (kX11_isFrom l D cy p3.toInt64 (1 : Int64) (15 : Int64) _ rfl H.size) (va_cwS 3 hts gX11_hay_X11_isFrom rfl rfl rfl (by decide +kernel) ⟨Nat.le_of_ble_eq_true rfl, Nat.le_of_ble_eq_true rfl⟩) hK hN hP hD [] rfl rfl rfl hl.1 rfl (Nat.le_of_ble_eq_true rfl) dX11_hay_35 ⟨Nat.le_refl 0, Nat.le_refl 0⟩) hP hD hS hA [] ⟨rfl, rfl, rfl, rfl⟩ (fun b12 H locs hP hD hS => ?_)
        refine lv_if_ne (tgt := 47) hx hb dX11_hay_38 (by decide) (fun c13 => ?_) (fun c13 => ?_)
        · replace h := (if_neg c13).symm.trans h
          refine lv_lconst (v := 1) hx hb dX11_hay_47 (by decide) ?_
          refine lv_lstore (lv' := [(4, .long (1 : Int64)), (0, .ref h0), (1, .int p1), (2, .int p2), (3, .int p3)]) hx hb dX11_hay_48 hl (by decide) rfl (fun ls hl => ?_)
          refine lv_lconst (v := 1) hx hb dX11_hay_50 (by decide) ?_
          refine lv_lstore (lv' := [(6, .long (1 : Int64)), (4, .long (1 : Int64)), (0, .ref h0), (1, .int p1), (2, .int p2), (3, .int p3)]) hx hb dX11_hay_51 hl (by decide) rfl (fun ls hl => ?_)
          refine lv_iconst (v := 0) hx hb dX11_hay_53 (by decide) ?_
          refine lv_istore (lv' := [(8, .int (0 : Int32)), (6, .long (1 : Int64)), (4, .long (1 : Int64)), (0, .ref h0), (1, .int p1), (2, .int p2), (3, .int p3)]) hx hb dX11_hay_54 hl (by decide) rfl (fun ls hl => ?_)
          have L56 : ∀ (n : Nat) (q56 : Int64 × Int64 × Int32 × Rc) (o : (Rc) ⊕ (Int64 × Int64 × Rc)), loopO (fX11_hay_L56 p1 p2 p3) n q56 = some o → ∀ (H : Heap) (locs : List Loc) (ls : Array Slot), lv_has ls 9 [(0, .ref h0), (1, .int p1), (2, .int p2), (3, .int p3), (4, .long q56.1), (6, .long q56.2.1), (8, .int q56.2.2.1)] → va_P D vwCl (flat [WX11 cy h0 a0 q56.2.2.2]) H → va_D A (flat [WX11 cy h0 a0 q56.2.2.2]) → va_S A s.heap H locs → ∀ (kk85 : ∀ v : Rc, o = (.inl v) → ∀ (H : Heap) (locs : List Loc) (ls : Array Slot), lv_has ls 9 [(0, .ref h0)] → va_P D vwCl (flat [WX11 cy h0 a0 v]) H → va_D A (flat [WX11 cy h0 a0 v]) → va_S A s.heap H locs → W p l e rmX11_hay s m args below meth c H locs 0 0 QQ (F0 m 85 ls [])) (kk129 : ∀ v : Int64 × Int64 × Rc, o = (.inr v) → ∀ (H : Heap) (locs : List Loc) (ls : Array Slot), lv_has ls 9 [(0, .ref h0), (4, .long v.1), (6, .long v.2.1)] → va_P D vwCl (flat [WX11 cy h0 a0 v.2.2]) H → va_D A (flat [WX11 cy h0 a0 v.2.2]) → va_S A s.heap H locs → W p l e rmX11_hay s m args below meth c H locs 0 0 QQ (F0 m 129 ls [])), W p l e rmX11_hay s m args below meth c H locs 0 0 QQ (F0 m 56 ls []) := by
            intro n
            induction n with
            | zero => intro q56 o h; exact absurd h (by rw [loopO_zero]; intro z; cases z)
            | succ n ih =>
              intro q56 o h H locs ls hl hP hD hS kk85 kk129
              obtain ⟨w, h, hgo, hst⟩ := loopO_elim h
              unfold fX11_hay_L56 at h
              refine lv_iload hx hb dX11_hay_56 (lv_at hl 6 rfl) ?_
              refine lv_iload_n hx hb dX11_hay_58 rfl (lv_at hl 2 rfl) ?_
              refine lv_icmp_ge (tgt := 129) hx hb dX11_hay_59 (by decide) (fun c14 => ?_) (fun c14 => ?_)
              · replace h := (if_pos c14).symm.trans h
                have eo := hst _ (Option.some.inj h).symm
                exact kk129 _ eo.symm H locs ls (lv_sub hl [0, 4, 5] rfl) hP hD hS
              · replace h := (if_neg c14).symm.trans h
                refine lv_aload_n hx hb dX11_hay_62 rfl (lv_at hl 0 rfl) ?_
                refine lv_iload_n hx hb dX11_hay_63 rfl (lv_at hl 1 rfl) ?_
                refine lv_iload hx hb dX11_hay_64 (lv_at hl 6 rfl) ?_
                refine lv_iadd hx hb dX11_hay_66 ?_
                refine lv_iload_n hx hb dX11_hay_67 rfl (lv_at hl 3 rfl) ?_
                obtain ⟨r15, hr15, h⟩ := bd_elim h
                refine ca_v (w' := [WX11 cy h0 a0 r15]) (rn_V (As := [.int (p1 + q56.2.2.1), .int p3]) (rest := []) ⟨hx, hb, hml, hown, hts⟩ (kX11_weighs l D cy h0 a0 q56.2.2.2 (p1 + q56.2.2.1) p3 r15 hr15 H.size) (cwV 2 hts gX11_hay_X11_weighs rfl rfl rfl (by decide +kernel) ⟨Nat.le_of_ble_eq_true rfl, Nat.le_of_ble_eq_true rfl⟩) hK hN hP hD [0] rfl rfl (ci := 11) (q0 := 0) rfl rfl rfl rfl hl.1 rfl (Nat.le_of_ble_eq_true rfl) dX11_hay_68 ⟨Nat.le_refl 0, Nat.le_refl 0⟩) hP hD hS hA [0] ⟨rfl, rfl, rfl, rfl⟩ (fun H locs hP hD hS => ?_)
                refine lv_aload_n hx hb dX11_hay_71 rfl (lv_at hl 0 rfl) ?_
                refine va_get (D := D) (ci := 11) (v := .long (gl r15 27)) (C := RX11) (T := TX11) (N := 38) hx hb hts hinX11 hown hK hP 0 rfl rfl 27 (by decide) (hts (.fieldLink RX11 359 "KneeBenchModel" "rainy" "J") (List.mem_of_getElem? (i := 3) rfl)) (fun _ h9 => h9) rfl dX11_hay_72 ?_
                refine lv_aload_n hx hb dX11_hay_75 rfl (lv_at hl 0 rfl) ?_
                refine va_get (D := D) (ci := 11) (v := .long (gl r15 28)) (C := RX11) (T := TX11) (N := 38) hx hb hts hinX11 hown hK hP 0 rfl rfl 28 (by decide) (hts (.fieldLink RX11 362 "KneeBenchModel" "dry0" "J") (List.mem_of_getElem? (i := 4) rfl)) (fun _ h9 => h9) rfl dX11_hay_76 ?_
                refine lv_ladd hx hb dX11_hay_79 ?_
                refine lv_lconst (v := 0) hx hb dX11_hay_80 (by decide) ?_
                refine W.lcmp hx hb dX11_hay_81 ?_
                refine lv_if_ne (tgt := 92) hx hb dX11_hay_82 (by decide) (fun c16 => ?_) (fun c16 => ?_)
                · replace h := (if_neg (fun z => c16 (lg_ceq.mpr z))).symm.trans h
                  refine lv_lload hx hb dX11_hay_92 (lv_at hl 4 rfl) ?_
                  refine lv_aload_n hx hb dX11_hay_94 rfl (lv_at hl 0 rfl) ?_
                  refine va_get (D := D) (ci := 11) (v := .long (gl r15 28)) (C := RX11) (T := TX11) (N := 38) hx hb hts hinX11 hown hK hP 0 rfl rfl 28 (by decide) (hts (.fieldLink RX11 362 "KneeBenchModel" "dry0" "J") (List.mem_of_getElem? (i := 4) rfl)) (fun _ h9 => h9) rfl dX11_hay_95 ?_
                  refine lv_ldc2 (v := 1000000) hx hb hown (hts (.constantLong RX11 371 (1000000)) (List.mem_of_getElem? (i := 5) rfl)) dX11_hay_98 ?_
                  refine lv_lmul hx hb dX11_hay_101 ?_
                  refine lv_aload_n hx hb dX11_hay_102 rfl (lv_at hl 0 rfl) ?_
                  refine va_get (D := D) (ci := 11) (v := .long (gl r15 27)) (C := RX11) (T := TX11) (N := 38) hx hb hts hinX11 hown hK hP 0 rfl rfl 27 (by decide) (hts (.fieldLink RX11 359 "KneeBenchModel" "rainy" "J") (List.mem_of_getElem? (i := 3) rfl)) (fun _ h9 => h9) rfl dX11_hay_103 ?_
                  refine lv_aload_n hx hb dX11_hay_106 rfl (lv_at hl 0 rfl) ?_
                  refine va_get (D := D) (ci := 11) (v := .long (gl r15 28)) (C := RX11) (T := TX11) (N := 38) hx hb hts hinX11 hown hK hP 0 rfl rfl 28 (by decide) (hts (.fieldLink RX11 362 "KneeBenchModel" "dry0" "J") (List.mem_of_getElem? (i := 4) rfl)) (fun _ h9 => h9) rfl dX11_hay_107 ?_
                  refine lv_ladd hx hb dX11_hay_110 ?_
                  obtain ⟨g17, h⟩ := gd_elim h
                  refine lv_ldiv hx hb dX11_hay_111 (nz64_ne g17) ?_
                  refine lv_lmul hx hb dX11_hay_112 ?_
                  refine lv_topl (fun x18 ex18 => ?_)
                  replace h := lt_use h x18 ex18
                  refine lv_lstore (lv' := [(4, .long x18), (0, .ref h0), (1, .int p1), (2, .int p2), (3, .int p3), (6, .long q56.2.1), (8, .int q56.2.2.1)]) hx hb dX11_hay_113 hl (by decide) rfl (fun ls hl => ?_)
                  refine lv_lload hx hb dX11_hay_115 (lv_at hl 5 rfl) ?_
                  refine lv_ldc2 (v := 1000000) hx hb hown (hts (.constantLong RX11 371 (1000000)) (List.mem_of_getElem? (i := 5) rfl)) dX11_hay_117 ?_
                  refine lv_lmul hx hb dX11_hay_120 ?_
                  refine lv_topl (fun x19 ex19 => ?_)
                  replace h := lt_use h x19 ex19
                  refine lv_lstore (lv' := [(6, .long x19), (4, .long x18), (0, .ref h0), (1, .int p1), (2, .int p2), (3, .int p3), (8, .int q56.2.2.1)]) hx hb dX11_hay_121 hl (by decide) rfl (fun ls hl => ?_)
                  refine lv_iinc (v := (q56.2.2.1 + (1 : Int32))) (lv' := [(8, .int (q56.2.2.1 + (1 : Int32))), (6, .long x19), (4, .long x18), (0, .ref h0), (1, .int p1), (2, .int p2), (3, .int p3)]) hx hb dX11_hay_123 hl (k := 6) rfl rfl (by decide) rfl (fun ls hl => ?_)
                  refine lv_goto (tgt := 56) hx hb dX11_hay_126 (by decide) ?_
                  exact ih _ o (hgo _ (Option.some.inj h).symm) H locs ls (lv_sub hl [3, 4, 5, 6, 2, 1, 0] rfl) hP hD hS kk85 kk129
                · replace h := (if_pos (lg_ceq.mp c16)).symm.trans h
                  have eo := hst _ (Option.some.inj h).symm
                  exact kk85 _ eo.symm H locs ls (lv_sub hl [0] rfl) hP hD hS
          obtain ⟨o56, ho56, h⟩ := bd_elim h
          obtain ⟨n56, hn56⟩ := loopF_some ho56
          refine L56 n56 _ o56 hn56 H locs ls (lv_sub hl [3, 4, 5, 6, 2, 1, 0] rfl) hP hD hS (fun o56a eo H locs ls hl hP hD hS => ?_) (fun o56b eo H locs ls hl hP hD hS => ?_)
          · subst eo
            rw [Sum.elim_inl] at h
            refine lv_aload_n hx hb dX11_hay_85 rfl (lv_at hl 0 rfl) ?_
            refine lv_bipush (v := 7) hx hb dX11_hay_86 (by decide) ?_
            obtain ⟨r20, hr20, h⟩ := lt_elim h
            refine ca_z (w' := [WX11 cy h0 a0 r20.2]) (rn_V (As := [.int (7 : Int32)]) (rest := []) ⟨hx, hb, hml, hown, hts⟩ (kX11_is l D cy h0 a0 o56a (7 : Int32) r20 hr20.symm H.size) (cwV 1 hts gX11_hay_X11_is rfl rfl rfl (by decide +kernel) ⟨Nat.le_of_ble_eq_true rfl, Nat.le_of_ble_eq_true rfl⟩) hK hN hP hD [0] rfl rfl (ci := 11) (q0 := 0) rfl rfl rfl rfl hl.1 rfl (Nat.le_of_ble_eq_true rfl) dX11_hay_88 ⟨Nat.le_refl 0, Nat.le_refl 0⟩) hP hD hS hA [0] ⟨rfl, rfl, rfl, rfl⟩ (fun b21 H locs hP hD hS => ?_)
            exact hret 91 H locs ls (r20.1, r20.2) (Option.some.inj h) hP hD hS b21 dX11_hay_91
          · subst eo
            rw [Sum.elim_inr] at h
            refine lv_aload_n hx hb dX11_hay_129 rfl (lv_at hl 0 rfl) ?_
            refine lv_lload hx hb dX11_hay_130 (lv_at hl 1 rfl) ?_
            refine lv_lload hx hb dX11_hay_132 (lv_at hl 2 rfl) ?_
            obtain ⟨r22, hr22, h⟩ := bd_elim h
            refine ca_z (w' := [WX11 cy h0 a0 r22.2]) (rn_V (As := [.long o56b.1, .long o56b.2.1]) (rest := []) ⟨hx, hb, hml, hown, hts⟩ (kX11_tellsBy l D cy h0 a0 o56b.2.2 o56b.1 o56b.2.1 r22 hr22 H.size) (cwV 2 hts gX11_hay_X11_tellsBy rfl rfl rfl (by decide +kernel) ⟨Nat.le_of_ble_eq_true rfl, Nat.le_of_ble_eq_true rfl⟩) hK hN hP hD [0] rfl rfl (ci := 11) (q0 := 0) rfl rfl rfl rfl hl.1 rfl (Nat.le_of_ble_eq_true rfl) dX11_hay_134 ⟨Nat.le_refl 0, Nat.le_refl 0⟩) hP hD hS hA [0] ⟨rfl, rfl, rfl, rfl⟩ (fun b23 H locs hP hD hS => ?_)
            exact hret 137 H locs ls (r22.1, r22.2) (Option.some.inj h) hP hD hS b23 dX11_hay_137
        · replace h := (if_pos c13).symm.trans h
          refine lv_aload_n hx hb dX11_hay_41 rfl (lv_at hl 0 rfl) ?_
          refine lv_iconst (v := 1) hx hb dX11_hay_42 (by decide) ?_
          obtain ⟨r24, hr24, h⟩ := lt_elim h
          refine ca_z (w' := [WX11 cy h0 a0 r24.2]) (rn_V (As := [.int (1 : Int32)]) (rest := []) ⟨hx, hb, hml, hown, hts⟩ (kX11_is l D cy h0 a0 s0 (1 : Int32) r24 hr24.symm H.size) (cwV 1 hts gX11_hay_X11_is rfl rfl rfl (by decide +kernel) ⟨Nat.le_of_ble_eq_true rfl, Nat.le_of_ble_eq_true rfl⟩) hK hN hP hD [0] rfl rfl (ci := 11) (q0 := 0) rfl rfl rfl rfl hl.1 rfl (Nat.le_of_ble_eq_true rfl) dX11_hay_43 ⟨Nat.le_refl 0, Nat.le_refl 0⟩) hP hD hS hA [0] ⟨rfl, rfl, rfl, rfl⟩ (fun b25 H locs hP hD hS => ?_)
          exact hret 46 H locs ls (r24.1, r24.2) (Option.some.inj h) hP hD hS b25 dX11_hay_46
theorem gd_X11_holds : wsX11_holds.all goodWord = true := by decide +kernel
set_option maxRecDepth 20000 in
theorem ggX11_holds_X11_sayOf : GoodIn wsX11_holds wsX11_sayOf := goodIn_by gd_X11_holds (List.forall_mem_cons.mpr ⟨List.mem_cons_of_mem _ (List.mem_append_left _ (List.mem_append_left _ (List.mem_of_getElem? (i := 5) rfl))), List.forall_mem_append.mpr ⟨List.forall_mem_append.mpr ⟨List.forall_mem_cons.mpr ⟨List.mem_cons_of_mem _ (List.mem_append_left _ (List.mem_append_left _ (List.mem_of_getElem? (i := 0) rfl))), List.forall_mem_cons.mpr ⟨List.mem_cons_of_mem _ (List.mem_append_left _ (List.mem_append_left _ (List.mem_of_getElem? (i := 6) rfl))), List.forall_mem_cons.mpr ⟨List.mem_cons_of_mem _ (List.mem_append_left _ (List.mem_append_left _ (List.mem_of_getElem? (i := 7) rfl))), List.forall_mem_cons.mpr ⟨List.mem_cons_of_mem _ (List.mem_append_left _ (List.mem_append_left _ (List.mem_of_getElem? (i := 8) rfl))), List.forall_mem_cons.mpr ⟨List.mem_cons_of_mem _ (List.mem_append_left _ (List.mem_append_left _ (List.mem_of_getElem? (i := 4) rfl))), List.forall_mem_cons.mpr ⟨List.mem_cons_of_mem _ (List.mem_append_left _ (List.mem_append_left _ (List.mem_of_getElem? (i := 9) rfl))), List.forall_mem_cons.mpr ⟨List.mem_cons_of_mem _ (List.mem_append_left _ (List.mem_append_left _ (List.mem_of_getElem? (i := 10) rfl))), List.forall_mem_cons.mpr ⟨List.mem_cons_of_mem _ (List.mem_append_left _ (List.mem_append_left _ (List.mem_of_getElem? (i := 11) rfl))), List.forall_mem_cons.mpr ⟨List.mem_cons_of_mem _ (List.mem_append_left _ (List.mem_append_left _ (List.mem_of_getElem? (i := 12) rfl))), List.forall_mem_cons.mpr ⟨List.mem_cons_of_mem _ (List.mem_append_left _ (List.mem_append_left _ (List.mem_of_getElem? (i := 13) rfl))), List.forall_mem_cons.mpr ⟨List.mem_cons_of_mem _ (List.mem_append_left _ (List.mem_append_left _ (List.mem_of_getElem? (i := 14) rfl))), List.forall_mem_cons.mpr ⟨List.mem_cons_of_mem _ (List.mem_append_left _ (List.mem_append_left _ (List.mem_of_getElem? (i := 15) rfl))), List.forall_mem_cons.mpr ⟨List.mem_cons_of_mem _ (List.mem_append_left _ (List.mem_append_left _ (List.mem_of_getElem? (i := 16) rfl))), List.forall_mem_cons.mpr ⟨List.mem_cons_of_mem _ (List.mem_append_left _ (List.mem_append_left _ (List.mem_of_getElem? (i := 17) rfl))), List.forall_mem_cons.mpr ⟨List.mem_cons_of_mem _ (List.mem_append_left _ (List.mem_append_left _ (List.mem_of_getElem? (i := 18) rfl))), List.forall_mem_cons.mpr ⟨List.mem_cons_of_mem _ (List.mem_append_left _ (List.mem_append_left _ (List.mem_of_getElem? (i := 19) rfl))), List.forall_mem_cons.mpr ⟨List.mem_cons_of_mem _ (List.mem_append_left _ (List.mem_append_left _ (List.mem_of_getElem? (i := 20) rfl))), List.forall_mem_cons.mpr ⟨List.mem_cons_of_mem _ (List.mem_append_left _ (List.mem_append_left _ (List.mem_of_getElem? (i := 21) rfl))), List.forall_mem_cons.mpr ⟨List.mem_cons_of_mem _ (List.mem_append_left _ (List.mem_append_left _ (List.mem_of_getElem? (i := 22) rfl))), List.forall_mem_cons.mpr ⟨List.mem_cons_of_mem _ (List.mem_append_left _ (List.mem_append_left _ (List.mem_of_getElem? (i := 23) rfl))), List.forall_mem_cons.mpr ⟨List.mem_cons_of_mem _ (List.mem_append_left _ (List.mem_append_right _ (List.mem_of_getElem? (i := 0) rfl))), List.forall_mem_cons.mpr ⟨List.mem_cons_of_mem _ (List.mem_append_left _ (List.mem_append_right _ (List.mem_of_getElem? (i := 1) rfl))), List.forall_mem_cons.mpr ⟨List.mem_cons_of_mem _ (List.mem_append_left _ (List.mem_append_right _ (List.mem_of_getElem? (i := 2) rfl))), List.forall_mem_cons.mpr ⟨List.mem_cons_of_mem _ (List.mem_append_left _ (List.mem_append_right _ (List.mem_of_getElem? (i := 3) rfl))), nowords_in⟩⟩⟩⟩⟩⟩⟩⟩⟩⟩⟩⟩⟩⟩⟩⟩⟩⟩⟩⟩⟩⟩⟩⟩, List.forall_mem_cons.mpr ⟨List.mem_cons_of_mem _ (List.mem_append_left _ (List.mem_append_right _ (List.mem_of_getElem? (i := 4) rfl))), List.forall_mem_cons.mpr ⟨List.mem_cons_of_mem _ (List.mem_append_left _ (List.mem_append_right _ (List.mem_of_getElem? (i := 5) rfl))), nowords_in⟩⟩⟩, (fun _ h => List.mem_cons_of_mem _ (List.mem_append_right _ (h)))⟩⟩)
set_option maxRecDepth 20000 in
theorem gX11_holds_X11_sayOf : GoodIn wsX11_holds (wsV RX11 316 RX11 yX11_sayOf wsX11_sayOf) := goodIn_app (goodIn_by gd_X11_holds (List.forall_mem_cons.mpr ⟨List.mem_cons_of_mem _ (List.mem_append_left _ (List.mem_append_left _ (List.mem_of_getElem? (i := 1) rfl))), List.forall_mem_cons.mpr ⟨List.mem_cons_of_mem _ (List.mem_append_left _ (List.mem_append_left _ (List.mem_of_getElem? (i := 2) rfl))), List.forall_mem_cons.mpr ⟨List.mem_cons_of_mem _ (List.mem_append_left _ (List.mem_append_left _ (List.mem_of_getElem? (i := 3) rfl))), List.forall_mem_cons.mpr ⟨List.mem_cons_of_mem _ (List.mem_append_left _ (List.mem_append_left _ (List.mem_of_getElem? (i := 4) rfl))), nowords_in⟩⟩⟩⟩)) ggX11_holds_X11_sayOf
set_option maxRecDepth 20000 in
theorem ggX11_holds_X11_farmerRow : GoodIn wsX11_holds wsX11_farmerRow := goodIn_by gd_X11_holds (List.forall_mem_cons.mpr ⟨List.mem_cons_of_mem _ (List.mem_append_left _ (List.mem_append_left _ (List.mem_of_getElem? (i := 18) rfl))), nowords_in⟩)
set_option maxRecDepth 20000 in
theorem gX11_holds_X11_farmerRow : GoodIn wsX11_holds (va_wsS RX11 177 yX11_farmerRow wsX11_farmerRow) := goodIn_app (goodIn_by gd_X11_holds (List.forall_mem_cons.mpr ⟨List.mem_cons_of_mem _ (List.mem_append_left _ (List.mem_append_left _ (List.mem_of_getElem? (i := 16) rfl))), List.forall_mem_cons.mpr ⟨List.mem_cons_of_mem _ (List.mem_append_left _ (List.mem_append_left _ (List.mem_of_getElem? (i := 17) rfl))), List.forall_mem_cons.mpr ⟨List.mem_cons_of_mem _ (List.mem_append_left _ (List.mem_append_left _ (List.mem_of_getElem? (i := 4) rfl))), nowords_in⟩⟩⟩)) ggX11_holds_X11_farmerRow
theorem dX11_holds_0 : decode cX11_holds 0 = .ok (.aload_n 0, 1) := by decide +kernel
theorem dX11_holds_1 : decode cX11_holds 1 = .ok (.getfield 7, 3) := by decide +kernel
theorem dX11_holds_4 : decode cX11_holds 4 = .ok (.iload_n 1, 1) := by decide +kernel
theorem dX11_holds_5 : decode cX11_holds 5 = .ok (.iaload, 1) := by decide +kernel
theorem dX11_holds_6 : decode cX11_holds 6 = .ok (.sipush 2300, 3) := by decide +kernel
theorem dX11_holds_9 : decode cX11_holds 9 = .ok (.isub, 1) := by decide +kernel
theorem dX11_holds_10 : decode cX11_holds 10 = .ok (.istore_n 2, 1) := by decide +kernel
theorem dX11_holds_11 : decode cX11_holds 11 = .ok (.iload_n 2, 1) := by decide +kernel
theorem dX11_holds_12 : decode cX11_holds 12 = .ok (.bipush 27, 2) := by decide +kernel
theorem dX11_holds_14 : decode cX11_holds 14 = .ok (.if_icmp .ne 25, 3) := by decide +kernel
theorem dX11_holds_17 : decode cX11_holds 17 = .ok (.aload_n 0, 1) := by decide +kernel
theorem dX11_holds_18 : decode cX11_holds 18 = .ok (.aload_n 0, 1) := by decide +kernel
theorem dX11_holds_19 : decode cX11_holds 19 = .ok (.getfield 7, 3) := by decide +kernel
theorem dX11_holds_22 : decode cX11_holds 22 = .ok (.iload_n 1, 1) := by decide +kernel
theorem dX11_holds_23 : decode cX11_holds 23 = .ok (.iconst 1, 1) := by decide +kernel
theorem dX11_holds_24 : decode cX11_holds 24 = .ok (.iadd, 1) := by decide +kernel
theorem dX11_holds_25 : decode cX11_holds 25 = .ok (.iaload, 1) := by decide +kernel
theorem dX11_holds_26 : decode cX11_holds 26 = .ok (.invokevirtual 316, 3) := by decide +kernel
theorem dX11_holds_29 : decode cX11_holds 29 = .ok (.iconst 1, 1) := by decide +kernel
theorem dX11_holds_30 : decode cX11_holds 30 = .ok (.if_icmp .ne 7, 3) := by decide +kernel
theorem dX11_holds_33 : decode cX11_holds 33 = .ok (.iconst 1, 1) := by decide +kernel
theorem dX11_holds_34 : decode cX11_holds 34 = .ok (.goto 4, 3) := by decide +kernel
theorem dX11_holds_37 : decode cX11_holds 37 = .ok (.iconst 0, 1) := by decide +kernel
theorem dX11_holds_38 : decode cX11_holds 38 = .ok (.ireturn, 1) := by decide +kernel
theorem dX11_holds_39 : decode cX11_holds 39 = .ok (.iload_n 2, 1) := by decide +kernel
theorem dX11_holds_40 : decode cX11_holds 40 = .ok (.bipush 28, 2) := by decide +kernel
theorem dX11_holds_42 : decode cX11_holds 42 = .ok (.if_icmp .ne 25, 3) := by decide +kernel
theorem dX11_holds_45 : decode cX11_holds 45 = .ok (.aload_n 0, 1) := by decide +kernel
theorem dX11_holds_46 : decode cX11_holds 46 = .ok (.getfield 7, 3) := by decide +kernel
theorem dX11_holds_49 : decode cX11_holds 49 = .ok (.iconst 0, 1) := by decide +kernel
theorem dX11_holds_50 : decode cX11_holds 50 = .ok (.aload_n 0, 1) := by decide +kernel
theorem dX11_holds_51 : decode cX11_holds 51 = .ok (.getfield 7, 3) := by decide +kernel
theorem dX11_holds_54 : decode cX11_holds 54 = .ok (.iload_n 1, 1) := by decide +kernel
theorem dX11_holds_55 : decode cX11_holds 55 = .ok (.iconst 1, 1) := by decide +kernel
theorem dX11_holds_56 : decode cX11_holds 56 = .ok (.iadd, 1) := by decide +kernel
theorem dX11_holds_57 : decode cX11_holds 57 = .ok (.iaload, 1) := by decide +kernel
theorem dX11_holds_58 : decode cX11_holds 58 = .ok (.invokestatic 177, 3) := by decide +kernel
theorem dX11_holds_61 : decode cX11_holds 61 = .ok (.iconst 5, 1) := by decide +kernel
theorem dX11_holds_62 : decode cX11_holds 62 = .ok (.iadd, 1) := by decide +kernel
theorem dX11_holds_63 : decode cX11_holds 63 = .ok (.iaload, 1) := by decide +kernel
theorem dX11_holds_64 : decode cX11_holds 64 = .ok (.goto 9, 3) := by decide +kernel
theorem dX11_holds_67 : decode cX11_holds 67 = .ok (.aload_n 0, 1) := by decide +kernel
theorem dX11_holds_68 : decode cX11_holds 68 = .ok (.getfield 7, 3) := by decide +kernel
theorem dX11_holds_71 : decode cX11_holds 71 = .ok (.iconst 1, 1) := by decide +kernel
theorem dX11_holds_72 : decode cX11_holds 72 = .ok (.iaload, 1) := by decide +kernel
theorem dX11_holds_73 : decode cX11_holds 73 = .ok (.istore_n 3, 1) := by decide +kernel
theorem dX11_holds_74 : decode cX11_holds 74 = .ok (.aload_n 0, 1) := by decide +kernel
theorem dX11_holds_75 : decode cX11_holds 75 = .ok (.getfield 7, 3) := by decide +kernel
theorem dX11_holds_78 : decode cX11_holds 78 = .ok (.iload_n 1, 1) := by decide +kernel
theorem dX11_holds_79 : decode cX11_holds 79 = .ok (.iconst 5, 1) := by decide +kernel
theorem dX11_holds_80 : decode cX11_holds 80 = .ok (.iadd, 1) := by decide +kernel
theorem dX11_holds_81 : decode cX11_holds 81 = .ok (.iaload, 1) := by decide +kernel
theorem dX11_holds_82 : decode cX11_holds 82 = .ok (.bipush 60, 2) := by decide +kernel
theorem dX11_holds_84 : decode cX11_holds 84 = .ok (.if_icmp .ne 23, 3) := by decide +kernel
theorem dX11_holds_87 : decode cX11_holds 87 = .ok (.iload_n 3, 1) := by decide +kernel
theorem dX11_holds_88 : decode cX11_holds 88 = .ok (.aload_n 0, 1) := by decide +kernel
theorem dX11_holds_89 : decode cX11_holds 89 = .ok (.getfield 7, 3) := by decide +kernel
theorem dX11_holds_92 : decode cX11_holds 92 = .ok (.iload_n 1, 1) := by decide +kernel
theorem dX11_holds_93 : decode cX11_holds 93 = .ok (.iconst 2, 1) := by decide +kernel
theorem dX11_holds_94 : decode cX11_holds 94 = .ok (.iadd, 1) := by decide +kernel
theorem dX11_holds_95 : decode cX11_holds 95 = .ok (.iaload, 1) := by decide +kernel
theorem dX11_holds_96 : decode cX11_holds 96 = .ok (.if_icmp .ge 7, 3) := by decide +kernel
theorem dX11_holds_99 : decode cX11_holds 99 = .ok (.iconst 1, 1) := by decide +kernel
theorem dX11_holds_100 : decode cX11_holds 100 = .ok (.goto 57, 3) := by decide +kernel
theorem dX11_holds_103 : decode cX11_holds 103 = .ok (.iconst 0, 1) := by decide +kernel
theorem dX11_holds_104 : decode cX11_holds 104 = .ok (.goto 53, 3) := by decide +kernel
theorem dX11_holds_107 : decode cX11_holds 107 = .ok (.aload_n 0, 1) := by decide +kernel
theorem dX11_holds_108 : decode cX11_holds 108 = .ok (.getfield 7, 3) := by decide +kernel
theorem dX11_holds_111 : decode cX11_holds 111 = .ok (.iload_n 1, 1) := by decide +kernel
theorem dX11_holds_112 : decode cX11_holds 112 = .ok (.iconst 5, 1) := by decide +kernel
theorem dX11_holds_113 : decode cX11_holds 113 = .ok (.iadd, 1) := by decide +kernel
theorem dX11_holds_114 : decode cX11_holds 114 = .ok (.iaload, 1) := by decide +kernel
theorem dX11_holds_115 : decode cX11_holds 115 = .ok (.bipush 62, 2) := by decide +kernel
theorem dX11_holds_117 : decode cX11_holds 117 = .ok (.if_icmp .ne 23, 3) := by decide +kernel
theorem dX11_holds_120 : decode cX11_holds 120 = .ok (.iload_n 3, 1) := by decide +kernel
theorem dX11_holds_121 : decode cX11_holds 121 = .ok (.aload_n 0, 1) := by decide +kernel
theorem dX11_holds_122 : decode cX11_holds 122 = .ok (.getfield 7, 3) := by decide +kernel
theorem dX11_holds_125 : decode cX11_holds 125 = .ok (.iload_n 1, 1) := by decide +kernel
theorem dX11_holds_126 : decode cX11_holds 126 = .ok (.iconst 2, 1) := by decide +kernel
theorem dX11_holds_127 : decode cX11_holds 127 = .ok (.iadd, 1) := by decide +kernel
theorem dX11_holds_128 : decode cX11_holds 128 = .ok (.iaload, 1) := by decide +kernel
theorem dX11_holds_129 : decode cX11_holds 129 = .ok (.if_icmp .le 7, 3) := by decide +kernel
theorem dX11_holds_132 : decode cX11_holds 132 = .ok (.iconst 1, 1) := by decide +kernel
theorem dX11_holds_133 : decode cX11_holds 133 = .ok (.goto 24, 3) := by decide +kernel
theorem dX11_holds_136 : decode cX11_holds 136 = .ok (.iconst 0, 1) := by decide +kernel
theorem dX11_holds_137 : decode cX11_holds 137 = .ok (.goto 20, 3) := by decide +kernel
theorem dX11_holds_140 : decode cX11_holds 140 = .ok (.iload_n 3, 1) := by decide +kernel
theorem dX11_holds_141 : decode cX11_holds 141 = .ok (.aload_n 0, 1) := by decide +kernel
theorem dX11_holds_142 : decode cX11_holds 142 = .ok (.getfield 7, 3) := by decide +kernel
theorem dX11_holds_145 : decode cX11_holds 145 = .ok (.iload_n 1, 1) := by decide +kernel
theorem dX11_holds_146 : decode cX11_holds 146 = .ok (.iconst 2, 1) := by decide +kernel
theorem dX11_holds_147 : decode cX11_holds 147 = .ok (.iadd, 1) := by decide +kernel
theorem dX11_holds_148 : decode cX11_holds 148 = .ok (.iaload, 1) := by decide +kernel
theorem dX11_holds_149 : decode cX11_holds 149 = .ok (.if_icmp .ne 7, 3) := by decide +kernel
theorem dX11_holds_152 : decode cX11_holds 152 = .ok (.iconst 1, 1) := by decide +kernel
theorem dX11_holds_153 : decode cX11_holds 153 = .ok (.goto 4, 3) := by decide +kernel
theorem dX11_holds_156 : decode cX11_holds 156 = .ok (.iconst 0, 1) := by decide +kernel
theorem dX11_holds_157 : decode cX11_holds 157 = .ok (.ireturn, 1) := by decide +kernel
abbrev rmX11_holds : Room := { frames := 4, cells := 0, slots := 0, locals := 92 }
set_option maxHeartbeats 4000000 in
set_option maxRecDepth 100000 in
theorem kX11_holds (l : Launch) (D : va_G) (cy : Nat → ClassId) (h0 : Nat) (a0 : Nat → Nat) (s0 : Rc) (p1 : Int32) (res : Int32) (h : fX11_holds p1 s0 = some res) : CZ l D cy yX11_holds wsX11_holds rmX11_holds [.ref h0, .int p1] (flat [WX11 cy h0 a0 s0]) (flat [WX11 cy h0 a0 s0]) res := by
  refine CZ.of (cc := cX11_holds) (maxL := 4) (by decide) rfl (Nat.le_of_ble_eq_true rfl) ?_
  intro p e s m args below meth c A QQ ls E hr
  obtain ⟨hx, hb, hml, hown, hts, hK, hN, hP, hD, hA, hl⟩ := E
  have hret : ∀ (pc : Nat) (H : Heap) (locs : List Loc) (ls : Array Slot) (u : Int32), u = res → va_P D vwCl (flat [WX11 cy h0 a0 s0]) H → va_D A (flat [WX11 cy h0 a0 s0]) → va_S A s.heap H locs → isb u = true → decode cX11_holds pc = .ok (.ireturn, 1) → W p l e rmX11_holds s m args below meth c H locs 0 0 QQ (F0 m pc ls [.int u]) := by
    intro pc H locs ls u hu hP hD hS hz hd; subst hu; exact hr pc H locs ls _ rfl hP hD hS hz hd
  clear hr
  have hl : lv_has ls 4 [(0, .ref h0), (1, .int p1)] := hl
  have hinX11 : ∀ w ∈ wsX110, w ∈ wsX11_holds := fun _ h => List.mem_cons_of_mem _ (List.mem_append_right _ h)
  unfold fX11_holds at h
  suffices key : ∀ (H : Heap) (locs : List Loc), va_P D vwCl (flat [WX11 cy h0 a0 s0]) H → va_S A s.heap H locs → W p l e rmX11_holds s m args below meth c H locs 0 0 QQ (F0 m 0 ls []) from key _ _ hP va_S.rf
  clear hP
  intro H locs hP hS
  have J73 : ∀ (z73_0 : Int32) (H : Heap) (locs : List Loc) (ls : Array Slot), lv_has ls 4 [(0, .ref h0), (1, .int p1)] → va_P D vwCl (flat [WX11 cy h0 a0 s0]) H → va_D A (flat [WX11 cy h0 a0 s0]) → va_S A s.heap H locs → fX11_holds_J73 p1 s0 z73_0 = some res → W p l e rmX11_holds s m args below meth c H locs 0 0 QQ (F0 m 73 ls [.int z73_0]) := by
    intro z73_0 H locs ls hl hP hD hS h
    unfold fX11_holds_J73 at h
    refine lv_istore_n (lv' := [(3, .int z73_0), (0, .ref h0), (1, .int p1)]) hx hb dX11_holds_73 rfl hl (by decide) rfl (fun ls hl => ?_)
    refine lv_aload_n hx hb dX11_holds_74 rfl (lv_at hl 1 rfl) ?_
    refine va_get (D := D) (ci := 11) (v := .ref (a0 0)) (C := RX11) (T := TX11) (N := 38) hx hb hts hinX11 hown hK hP 0 rfl rfl 0 (by decide) (hts (.fieldLink RX11 7 "KneeBenchModel" "at" "[I") (List.mem_of_getElem? (i := 1) rfl)) (fun _ h9 => h9) rfl dX11_holds_75 ?_
    refine lv_iload_n hx hb dX11_holds_78 rfl (lv_at hl 2 rfl) ?_
    refine lv_iconst (v := 5) hx hb dX11_holds_79 (by decide) ?_
    refine lv_iadd hx hb dX11_holds_80 ?_
    obtain ⟨g1, h⟩ := gd_elim h
    refine va_iald hx hb hK hP 1 1 rfl rfl (inb_in g1) dX11_holds_81 ?_
    refine lv_bipush (v := 60) hx hb dX11_holds_82 (by decide) ?_
    refine lv_icmp_ne (tgt := 107) hx hb dX11_holds_84 (by decide) (fun c2 => ?_) (fun c2 => ?_)
    · replace h := (if_neg c2).symm.trans h
      refine lv_aload_n hx hb dX11_holds_107 rfl (lv_at hl 1 rfl) ?_
      refine va_get (D := D) (ci := 11) (v := .ref (a0 0)) (C := RX11) (T := TX11) (N := 38) hx hb hts hinX11 hown hK hP 0 rfl rfl 0 (by decide) (hts (.fieldLink RX11 7 "KneeBenchModel" "at" "[I") (List.mem_of_getElem? (i := 1) rfl)) (fun _ h9 => h9) rfl dX11_holds_108 ?_
      refine lv_iload_n hx hb dX11_holds_111 rfl (lv_at hl 2 rfl) ?_
      refine lv_iconst (v := 5) hx hb dX11_holds_112 (by decide) ?_
      refine lv_iadd hx hb dX11_holds_113 ?_
      refine va_iald hx hb hK hP 1 1 rfl rfl (inb_in g1) dX11_holds_114 ?_
      refine lv_bipush (v := 62) hx hb dX11_holds_115 (by decide) ?_
      refine lv_icmp_ne (tgt := 140) hx hb dX11_holds_117 (by decide) (fun c3 => ?_) (fun c3 => ?_)
      · replace h := (if_neg c3).symm.trans h
        refine lv_iload_n hx hb dX11_holds_140 rfl (lv_at hl 0 rfl) ?_
        refine lv_aload_n hx hb dX11_holds_141 rfl (lv_at hl 1 rfl) ?_
        refine va_get (D := D) (ci := 11) (v := .ref (a0 0)) (C := RX11) (T := TX11) (N := 38) hx hb hts hinX11 hown hK hP 0 rfl rfl 0 (by decide) (hts (.fieldLink RX11 7 "KneeBenchModel" "at" "[I") (List.mem_of_getElem? (i := 1) rfl)) (fun _ h9 => h9) rfl dX11_holds_142 ?_
        refine lv_iload_n hx hb dX11_holds_145 rfl (lv_at hl 2 rfl) ?_
        refine lv_iconst (v := 2) hx hb dX11_holds_146 (by decide) ?_
        refine lv_iadd hx hb dX11_holds_147 ?_
        obtain ⟨g4, h⟩ := gd_elim h
        refine va_iald hx hb hK hP 1 1 rfl rfl (inb_in g4) dX11_holds_148 ?_
        refine lv_icmp_ne (tgt := 156) hx hb dX11_holds_149 (by decide) (fun c5 => ?_) (fun c5 => ?_)
        · replace h := (if_neg c5).symm.trans h
          refine lv_iconst (v := 0) hx hb dX11_holds_156 (by decide) ?_
          exact hret 157 H locs ls (0 : Int32) (Option.some.inj h) hP hD hS (show isb (0 : Int32) = true by decide) dX11_holds_157
        · replace h := (if_pos c5).symm.trans h
          refine lv_iconst (v := 1) hx hb dX11_holds_152 (by decide) ?_
          refine lv_goto (tgt := 157) hx hb dX11_holds_153 (by decide) ?_
          exact hret 157 H locs ls (1 : Int32) (Option.some.inj h) hP hD hS (show isb (1 : Int32) = true by decide) dX11_holds_157
      · replace h := (if_pos c3).symm.trans h
        refine lv_iload_n hx hb dX11_holds_120 rfl (lv_at hl 0 rfl) ?_
        refine lv_aload_n hx hb dX11_holds_121 rfl (lv_at hl 1 rfl) ?_
        refine va_get (D := D) (ci := 11) (v := .ref (a0 0)) (C := RX11) (T := TX11) (N := 38) hx hb hts hinX11 hown hK hP 0 rfl rfl 0 (by decide) (hts (.fieldLink RX11 7 "KneeBenchModel" "at" "[I") (List.mem_of_getElem? (i := 1) rfl)) (fun _ h9 => h9) rfl dX11_holds_122 ?_
        refine lv_iload_n hx hb dX11_holds_125 rfl (lv_at hl 2 rfl) ?_
        refine lv_iconst (v := 2) hx hb dX11_holds_126 (by decide) ?_
        refine lv_iadd hx hb dX11_holds_127 ?_
        obtain ⟨g6, h⟩ := gd_elim h
        refine va_iald hx hb hK hP 1 1 rfl rfl (inb_in g6) dX11_holds_128 ?_
        refine lv_icmp_le (tgt := 136) hx hb dX11_holds_129 (by decide) (fun c7 => ?_) (fun c7 => ?_)
        · replace h := (if_pos c7).symm.trans h
          refine lv_iconst (v := 0) hx hb dX11_holds_136 (by decide) ?_
          refine lv_goto (tgt := 157) hx hb dX11_holds_137 (by decide) ?_
          exact hret 157 H locs ls (0 : Int32) (Option.some.inj h) hP hD hS (show isb (0 : Int32) = true by decide) dX11_holds_157
        · replace h := (if_neg c7).symm.trans h
          refine lv_iconst (v := 1) hx hb dX11_holds_132 (by decide) ?_
          refine lv_goto (tgt := 157) hx hb dX11_holds_133 (by decide) ?_
          exact hret 157 H locs ls (1 : Int32) (Option.some.inj h) hP hD hS (show isb (1 : Int32) = true by decide) dX11_holds_157
    · replace h := (if_pos c2).symm.trans h
      refine lv_iload_n hx hb dX11_holds_87 rfl (lv_at hl 0 rfl) ?_
      refine lv_aload_n hx hb dX11_holds_88 rfl (lv_at hl 1 rfl) ?_
      refine va_get (D := D) (ci := 11) (v := .ref (a0 0)) (C := RX11) (T := TX11) (N := 38) hx hb hts hinX11 hown hK hP 0 rfl rfl 0 (by decide) (hts (.fieldLink RX11 7 "KneeBenchModel" "at" "[I") (List.mem_of_getElem? (i := 1) rfl)) (fun _ h9 => h9) rfl dX11_holds_89 ?_
      refine lv_iload_n hx hb dX11_holds_92 rfl (lv_at hl 2 rfl) ?_
      refine lv_iconst (v := 2) hx hb dX11_holds_93 (by decide) ?_
      refine lv_iadd hx hb dX11_holds_94 ?_
      obtain ⟨g8, h⟩ := gd_elim h
      refine va_iald hx hb hK hP 1 1 rfl rfl (inb_in g8) dX11_holds_95 ?_
      refine lv_icmp_ge (tgt := 103) hx hb dX11_holds_96 (by decide) (fun c9 => ?_) (fun c9 => ?_)
      · replace h := (if_pos c9).symm.trans h
        refine lv_iconst (v := 0) hx hb dX11_holds_103 (by decide) ?_
        refine lv_goto (tgt := 157) hx hb dX11_holds_104 (by decide) ?_
        exact hret 157 H locs ls (0 : Int32) (Option.some.inj h) hP hD hS (show isb (0 : Int32) = true by decide) dX11_holds_157
      · replace h := (if_neg c9).symm.trans h
        refine lv_iconst (v := 1) hx hb dX11_holds_99 (by decide) ?_
        refine lv_goto (tgt := 157) hx hb dX11_holds_100 (by decide) ?_
        exact hret 157 H locs ls (1 : Int32) (Option.some.inj h) hP hD hS (show isb (1 : Int32) = true by decide) dX11_holds_157
  refine lv_aload_n hx hb dX11_holds_0 rfl (lv_at hl 0 rfl) ?_
  refine va_get (D := D) (ci := 11) (v := .ref (a0 0)) (C := RX11) (T := TX11) (N := 38) hx hb hts hinX11 hown hK hP 0 rfl rfl 0 (by decide) (hts (.fieldLink RX11 7 "KneeBenchModel" "at" "[I") (List.mem_of_getElem? (i := 1) rfl)) (fun _ h9 => h9) rfl dX11_holds_1 ?_
  refine lv_iload_n hx hb dX11_holds_4 rfl (lv_at hl 1 rfl) ?_
  obtain ⟨g10, h⟩ := gd_elim h
  refine va_iald hx hb hK hP 1 1 rfl rfl (inb_in g10) dX11_holds_5 ?_
  refine lv_sipush (v := 2300) hx hb dX11_holds_6 (by decide) ?_
  refine lv_isub hx hb dX11_holds_9 ?_
  refine lv_topi (fun x11 ex11 => ?_)
  replace h := lt_use h x11 ex11
  refine lv_istore_n (lv' := [(2, .int x11), (0, .ref h0), (1, .int p1)]) hx hb dX11_holds_10 rfl hl (by decide) rfl (fun ls hl => ?_)
  refine lv_iload_n hx hb dX11_holds_11 rfl (lv_at hl 0 rfl) ?_
  refine lv_bipush (v := 27) hx hb dX11_holds_12 (by decide) ?_
  refine lv_icmp_ne (tgt := 39) hx hb dX11_holds_14 (by decide) (fun c12 => ?_) (fun c12 => ?_)
  · replace h := (if_neg c12).symm.trans h
    refine lv_iload_n hx hb dX11_holds_39 rfl (lv_at hl 0 rfl) ?_
    refine lv_bipush (v := 28) hx hb dX11_holds_40 (by decide) ?_
    refine lv_icmp_ne (tgt := 67) hx hb dX11_holds_42 (by decide) (fun c13 => ?_) (fun c13 => ?_)
    · replace h := (if_neg c13).symm.trans h
      refine lv_aload_n hx hb dX11_holds_67 rfl (lv_at hl 1 rfl) ?_
      refine va_get (D := D) (ci := 11) (v := .ref (a0 0)) (C := RX11) (T := TX11) (N := 38) hx hb hts hinX11 hown hK hP 0 rfl rfl 0 (by decide) (hts (.fieldLink RX11 7 "KneeBenchModel" "at" "[I") (List.mem_of_getElem? (i := 1) rfl)) (fun _ h9 => h9) rfl dX11_holds_68 ?_
      refine lv_iconst (v := 1) hx hb dX11_holds_71 (by decide) ?_
      refine va_iald hx hb hK hP 1 1 rfl rfl (inb_in (by decide)) dX11_holds_72 ?_
      exact J73 (ga s0 0 (1 : Int32).toNatClampNeg) H locs ls (lv_sub hl [1, 2] rfl) hP hD hS h
    · replace h := (if_pos c13).symm.trans h
      refine lv_aload_n hx hb dX11_holds_45 rfl (lv_at hl 1 rfl) ?_
      refine va_get (D := D) (ci := 11) (v := .ref (a0 0)) (C := RX11) (T := TX11) (N := 38) hx hb hts hinX11 hown hK hP 0 rfl rfl 0 (by decide) (hts (.fieldLink RX11 7 "KneeBenchModel" "at" "[I") (List.mem_of_getElem? (i := 1) rfl)) (fun _ h9 => h9) rfl dX11_holds_46 ?_
      refine lv_iconst (v := 0) hx hb dX11_holds_49 (by decide) ?_
      refine lv_aload_n hx hb dX11_holds_50 rfl (lv_at hl 1 rfl) ?_
      refine va_get (D := D) (ci := 11) (v := .ref (a0 0)) (C := RX11) (T := TX11) (N := 38) hx hb hts hinX11 hown hK hP 0 rfl rfl 0 (by decide) (hts (.fieldLink RX11 7 "KneeBenchModel" "at" "[I") (List.mem_of_getElem? (i := 1) rfl)) (fun _ h9 => h9) rfl dX11_holds_51 ?_
      refine lv_iload_n hx hb dX11_holds_54 rfl (lv_at hl 2 rfl) ?_
      refine lv_iconst (v := 1) hx hb dX11_holds_55 (by decide) ?_
      refine lv_iadd hx hb dX11_holds_56 ?_
      obtain ⟨g14, h⟩ := gd_elim h
      refine va_iald hx hb hK hP 1 1 rfl rfl (inb_in g14) dX11_holds_57 ?_
      refine ca_i (w' := [WX11 cy h0 a0 s0]) (rn_S (As := [.int (0 : Int32), .int (ga s0 0 (p1 + (1 : Int32)).toNatClampNeg)]) (rest := [.ref (a0 0)]) ⟨hx, hb, hml, hown, hts⟩ (kX11_farmerRow l D cy (0 : Int32) (ga s0 0 (p1 + (1 : Int32)).toNatClampNeg) _ rfl H.size) (va_cwS 2 hts gX11_holds_X11_farmerRow rfl rfl rfl (by decide +kernel) ⟨Nat.le_of_ble_eq_true rfl, Nat.le_of_ble_eq_true rfl⟩) hK hN hP hD [] rfl rfl rfl hl.1 rfl (Nat.le_of_ble_eq_true rfl) dX11_holds_58 ⟨Nat.le_refl 0, Nat.le_refl 0⟩) hP hD hS hA [] ⟨rfl, rfl, rfl, rfl⟩ (fun H locs hP hD hS => ?_)
      refine lv_iconst (v := 5) hx hb dX11_holds_61 (by decide) ?_
      refine lv_iadd hx hb dX11_holds_62 ?_
      obtain ⟨g15, h⟩ := gd_elim h
      refine va_iald hx hb hK hP 1 1 rfl rfl (inb_in g15) dX11_holds_63 ?_
      refine lv_goto (tgt := 73) hx hb dX11_holds_64 (by decide) ?_
      exact J73 (ga s0 0 ((fX11_farmerRow (0 : Int32) (ga s0 0 (p1 + (1 : Int32)).toNatClampNeg)) + (5 : Int32)).toNatClampNeg) H locs ls (lv_sub hl [1, 2] rfl) hP hD hS h
  · replace h := (if_pos c12).symm.trans h
    refine lv_aload_n hx hb dX11_holds_17 rfl (lv_at hl 1 rfl) ?_
    refine lv_aload_n hx hb dX11_holds_18 rfl (lv_at hl 1 rfl) ?_
    refine va_get (D := D) (ci := 11) (v := .ref (a0 0)) (C := RX11) (T := TX11) (N := 38) hx hb hts hinX11 hown hK hP 0 rfl rfl 0 (by decide) (hts (.fieldLink RX11 7 "KneeBenchModel" "at" "[I") (List.mem_of_getElem? (i := 1) rfl)) (fun _ h9 => h9) rfl dX11_holds_19 ?_
    refine lv_iload_n hx hb dX11_holds_22 rfl (lv_at hl 2 rfl) ?_
    refine lv_iconst (v := 1) hx hb dX11_holds_23 (by decide) ?_
    refine lv_iadd hx hb dX11_holds_24 ?_
    obtain ⟨g16, h⟩ := gd_elim h
    refine va_iald hx hb hK hP 1 1 rfl rfl (inb_in g16) dX11_holds_25 ?_
    obtain ⟨r17, hr17, h⟩ := bd_elim h
    refine ca_i (w' := [WX11 cy h0 a0 s0]) (rn_V (As := [.int (ga s0 0 (p1 + (1 : Int32)).toNatClampNeg)]) (rest := []) ⟨hx, hb, hml, hown, hts⟩ (kX11_sayOf l D cy h0 a0 s0 (ga s0 0 (p1 + (1 : Int32)).toNatClampNeg) r17 hr17 H.size) (cwV 1 hts gX11_holds_X11_sayOf rfl rfl rfl (by decide +kernel) ⟨Nat.le_of_ble_eq_true rfl, Nat.le_of_ble_eq_true rfl⟩) hK hN hP hD [0] rfl rfl (ci := 11) (q0 := 0) rfl rfl rfl rfl hl.1 rfl (Nat.le_of_ble_eq_true rfl) dX11_holds_26 ⟨Nat.le_refl 0, Nat.le_refl 0⟩) hP hD hS hA [0] ⟨rfl, rfl, rfl, rfl⟩ (fun H locs hP hD hS => ?_)
    refine lv_iconst (v := 1) hx hb dX11_holds_29 (by decide) ?_
    refine lv_icmp_ne (tgt := 37) hx hb dX11_holds_30 (by decide) (fun c18 => ?_) (fun c18 => ?_)
    · replace h := (if_neg c18).symm.trans h
      refine lv_iconst (v := 0) hx hb dX11_holds_37 (by decide) ?_
      exact hret 38 H locs ls (0 : Int32) (Option.some.inj h) hP hD hS (show isb (0 : Int32) = true by decide) dX11_holds_38
    · replace h := (if_pos c18).symm.trans h
      refine lv_iconst (v := 1) hx hb dX11_holds_33 (by decide) ?_
      refine lv_goto (tgt := 38) hx hb dX11_holds_34 (by decide) ?_
      exact hret 38 H locs ls (1 : Int32) (Option.some.inj h) hP hD hS (show isb (1 : Int32) = true by decide) dX11_holds_38
theorem gd_X11_isIn : wsX11_isIn.all goodWord = true := by decide +kernel
set_option maxRecDepth 20000 in
theorem ggX11_isIn_X11_isFarmer : GoodIn wsX11_isIn wsX11_isFarmer := goodIn_by gd_X11_isIn (List.forall_mem_cons.mpr ⟨List.mem_cons_of_mem _ (List.mem_append_left _ (List.mem_of_getElem? (i := 4) rfl)), List.forall_mem_append.mpr ⟨List.forall_mem_cons.mpr ⟨List.mem_cons_of_mem _ (List.mem_append_left _ (List.mem_of_getElem? (i := 5) rfl)), nowords_in⟩, (fun _ h => List.mem_cons_of_mem _ (List.mem_append_right _ (h)))⟩⟩)
set_option maxRecDepth 20000 in
theorem gX11_isIn_X11_isFarmer : GoodIn wsX11_isIn (wsV RX11 267 RX11 yX11_isFarmer wsX11_isFarmer) := goodIn_app (goodIn_by gd_X11_isIn (List.forall_mem_cons.mpr ⟨List.mem_cons_of_mem _ (List.mem_append_left _ (List.mem_of_getElem? (i := 0) rfl)), List.forall_mem_cons.mpr ⟨List.mem_cons_of_mem _ (List.mem_append_left _ (List.mem_of_getElem? (i := 1) rfl)), List.forall_mem_cons.mpr ⟨List.mem_cons_of_mem _ (List.mem_append_left _ (List.mem_of_getElem? (i := 2) rfl)), List.forall_mem_cons.mpr ⟨List.mem_cons_of_mem _ (List.mem_append_left _ (List.mem_of_getElem? (i := 3) rfl)), nowords_in⟩⟩⟩⟩)) ggX11_isIn_X11_isFarmer
set_option maxRecDepth 20000 in
theorem ggX11_isIn_X11_isDay : GoodIn wsX11_isIn wsX11_isDay := goodIn_by gd_X11_isIn (List.forall_mem_cons.mpr ⟨List.mem_cons_of_mem _ (List.mem_append_left _ (List.mem_of_getElem? (i := 9) rfl)), List.forall_mem_append.mpr ⟨List.forall_mem_cons.mpr ⟨List.mem_cons_of_mem _ (List.mem_append_left _ (List.mem_of_getElem? (i := 5) rfl)), nowords_in⟩, (fun _ h => List.mem_cons_of_mem _ (List.mem_append_right _ (h)))⟩⟩)
set_option maxRecDepth 20000 in
theorem gX11_isIn_X11_isDay : GoodIn wsX11_isIn (wsV RX11 255 RX11 yX11_isDay wsX11_isDay) := goodIn_app (goodIn_by gd_X11_isIn (List.forall_mem_cons.mpr ⟨List.mem_cons_of_mem _ (List.mem_append_left _ (List.mem_of_getElem? (i := 6) rfl)), List.forall_mem_cons.mpr ⟨List.mem_cons_of_mem _ (List.mem_append_left _ (List.mem_of_getElem? (i := 7) rfl)), List.forall_mem_cons.mpr ⟨List.mem_cons_of_mem _ (List.mem_append_left _ (List.mem_of_getElem? (i := 8) rfl)), List.forall_mem_cons.mpr ⟨List.mem_cons_of_mem _ (List.mem_append_left _ (List.mem_of_getElem? (i := 3) rfl)), nowords_in⟩⟩⟩⟩)) ggX11_isIn_X11_isDay
theorem dX11_isIn_0 : decode cX11_isIn 0 = .ok (.aload_n 0, 1) := by decide +kernel
theorem dX11_isIn_1 : decode cX11_isIn 1 = .ok (.iload_n 1, 1) := by decide +kernel
theorem dX11_isIn_2 : decode cX11_isIn 2 = .ok (.invokevirtual 267, 3) := by decide +kernel
theorem dX11_isIn_5 : decode cX11_isIn 5 = .ok (.ifCond .eq 15, 3) := by decide +kernel
theorem dX11_isIn_8 : decode cX11_isIn 8 = .ok (.aload_n 0, 1) := by decide +kernel
theorem dX11_isIn_9 : decode cX11_isIn 9 = .ok (.iload_n 2, 1) := by decide +kernel
theorem dX11_isIn_10 : decode cX11_isIn 10 = .ok (.invokevirtual 255, 3) := by decide +kernel
theorem dX11_isIn_13 : decode cX11_isIn 13 = .ok (.ifCond .eq 7, 3) := by decide +kernel
theorem dX11_isIn_16 : decode cX11_isIn 16 = .ok (.iconst 1, 1) := by decide +kernel
theorem dX11_isIn_17 : decode cX11_isIn 17 = .ok (.goto 4, 3) := by decide +kernel
theorem dX11_isIn_20 : decode cX11_isIn 20 = .ok (.iconst 0, 1) := by decide +kernel
theorem dX11_isIn_21 : decode cX11_isIn 21 = .ok (.ireturn, 1) := by decide +kernel
abbrev rmX11_isIn : Room := { frames := 1, cells := 0, slots := 0, locals := 21 }
set_option maxHeartbeats 4000000 in
set_option maxRecDepth 100000 in
theorem kX11_isIn (l : Launch) (D : va_G) (cy : Nat → ClassId) (h0 : Nat) (a0 : Nat → Nat) (s0 : Rc) (p1 : Int32) (p2 : Int32) (res : Int32) (h : fX11_isIn p1 p2 s0 = res) : CZ l D cy yX11_isIn wsX11_isIn rmX11_isIn [.ref h0, .int p1, .int p2] (flat [WX11 cy h0 a0 s0]) (flat [WX11 cy h0 a0 s0]) res := by
  refine CZ.of (cc := cX11_isIn) (maxL := 3) (by decide) rfl (Nat.le_of_ble_eq_true rfl) ?_
  intro p e s m args below meth c A QQ ls E hr
  obtain ⟨hx, hb, hml, hown, hts, hK, hN, hP, hD, hA, hl⟩ := E
  have hret : ∀ (pc : Nat) (H : Heap) (locs : List Loc) (ls : Array Slot) (u : Int32), u = res → va_P D vwCl (flat [WX11 cy h0 a0 s0]) H → va_D A (flat [WX11 cy h0 a0 s0]) → va_S A s.heap H locs → isb u = true → decode cX11_isIn pc = .ok (.ireturn, 1) → W p l e rmX11_isIn s m args below meth c H locs 0 0 QQ (F0 m pc ls [.int u]) := by
    intro pc H locs ls u hu hP hD hS hz hd; subst hu; exact hr pc H locs ls _ rfl hP hD hS hz hd
  clear hr
  have hl : lv_has ls 3 [(0, .ref h0), (1, .int p1), (2, .int p2)] := hl
  unfold fX11_isIn at h
  suffices key : ∀ (H : Heap) (locs : List Loc), va_P D vwCl (flat [WX11 cy h0 a0 s0]) H → va_S A s.heap H locs → W p l e rmX11_isIn s m args below meth c H locs 0 0 QQ (F0 m 0 ls []) from key _ _ hP va_S.rf
  clear hP
  intro H locs hP hS
  refine lv_aload_n hx hb dX11_isIn_0 rfl (lv_at hl 0 rfl) ?_
  refine lv_iload_n hx hb dX11_isIn_1 rfl (lv_at hl 1 rfl) ?_
  refine ca_z (w' := [WX11 cy h0 a0 s0]) (rn_V (As := [.int p1]) (rest := []) ⟨hx, hb, hml, hown, hts⟩ (kX11_isFarmer l D cy h0 a0 s0 p1 _ rfl H.size) (cwV 1 hts gX11_isIn_X11_isFarmer rfl rfl rfl (by decide +kernel) ⟨Nat.le_of_ble_eq_true rfl, Nat.le_of_ble_eq_true rfl⟩) hK hN hP hD [0] rfl rfl (ci := 11) (q0 := 0) rfl rfl rfl rfl hl.1 rfl (Nat.le_of_ble_eq_true rfl) dX11_isIn_2 ⟨Nat.le_refl 0, Nat.le_refl 0⟩) hP hD hS hA [0] ⟨rfl, rfl, rfl, rfl⟩ (fun b1 H locs hP hD hS => ?_)
  refine lv_if_eq (tgt := 20) hx hb dX11_isIn_5 (by decide) (fun c2 => ?_) (fun c2 => ?_)
  · replace h := (if_pos c2).symm.trans h
    refine lv_iconst (v := 0) hx hb dX11_isIn_20 (by decide) ?_
    exact hret 21 H locs ls (0 : Int32) h hP hD hS (show isb (0 : Int32) = true by decide) dX11_isIn_21
  · replace h := (if_neg c2).symm.trans h
    refine lv_aload_n hx hb dX11_isIn_8 rfl (lv_at hl 0 rfl) ?_
    refine lv_iload_n hx hb dX11_isIn_9 rfl (lv_at hl 2 rfl) ?_
    refine ca_z (w' := [WX11 cy h0 a0 s0]) (rn_V (As := [.int p2]) (rest := []) ⟨hx, hb, hml, hown, hts⟩ (kX11_isDay l D cy h0 a0 s0 p2 _ rfl H.size) (cwV 1 hts gX11_isIn_X11_isDay rfl rfl rfl (by decide +kernel) ⟨Nat.le_of_ble_eq_true rfl, Nat.le_of_ble_eq_true rfl⟩) hK hN hP hD [0] rfl rfl (ci := 11) (q0 := 0) rfl rfl rfl rfl hl.1 rfl (Nat.le_of_ble_eq_true rfl) dX11_isIn_10 ⟨Nat.le_refl 0, Nat.le_refl 0⟩) hP hD hS hA [0] ⟨rfl, rfl, rfl, rfl⟩ (fun b3 H locs hP hD hS => ?_)
    refine lv_if_eq (tgt := 20) hx hb dX11_isIn_13 (by decide) (fun c4 => ?_) (fun c4 => ?_)
    · replace h := (if_pos c4).symm.trans h
      refine lv_iconst (v := 0) hx hb dX11_isIn_20 (by decide) ?_
      exact hret 21 H locs ls (0 : Int32) h hP hD hS (show isb (0 : Int32) = true by decide) dX11_isIn_21
    · replace h := (if_neg c4).symm.trans h
      refine lv_iconst (v := 1) hx hb dX11_isIn_16 (by decide) ?_
      refine lv_goto (tgt := 21) hx hb dX11_isIn_17 (by decide) ?_
      exact hret 21 H locs ls (1 : Int32) h hP hD hS (show isb (1 : Int32) = true by decide) dX11_isIn_21
theorem gd_X11_isSpan : wsX11_isSpan.all goodWord = true := by decide +kernel
set_option maxRecDepth 20000 in
theorem ggX11_isSpan_X11_isAsked : GoodIn wsX11_isSpan wsX11_isAsked := goodIn_by gd_X11_isSpan (List.forall_mem_cons.mpr ⟨List.mem_cons_of_mem _ (List.mem_of_getElem? (i := 3) rfl), nowords_in⟩)
set_option maxRecDepth 20000 in
theorem gX11_isSpan_X11_isAsked : GoodIn wsX11_isSpan (va_wsS RX11 304 yX11_isAsked wsX11_isAsked) := goodIn_app (goodIn_by gd_X11_isSpan (List.forall_mem_cons.mpr ⟨List.mem_cons_of_mem _ (List.mem_of_getElem? (i := 0) rfl), List.forall_mem_cons.mpr ⟨List.mem_cons_of_mem _ (List.mem_of_getElem? (i := 1) rfl), List.forall_mem_cons.mpr ⟨List.mem_cons_of_mem _ (List.mem_of_getElem? (i := 2) rfl), nowords_in⟩⟩⟩)) ggX11_isSpan_X11_isAsked
theorem dX11_isSpan_0 : decode cX11_isSpan 0 = .ok (.iload_n 0, 1) := by decide +kernel
theorem dX11_isSpan_1 : decode cX11_isSpan 1 = .ok (.invokestatic 304, 3) := by decide +kernel
theorem dX11_isSpan_4 : decode cX11_isSpan 4 = .ok (.ifCond .eq 19, 3) := by decide +kernel
theorem dX11_isSpan_7 : decode cX11_isSpan 7 = .ok (.iload_n 1, 1) := by decide +kernel
theorem dX11_isSpan_8 : decode cX11_isSpan 8 = .ok (.invokestatic 304, 3) := by decide +kernel
theorem dX11_isSpan_11 : decode cX11_isSpan 11 = .ok (.ifCond .eq 12, 3) := by decide +kernel
theorem dX11_isSpan_14 : decode cX11_isSpan 14 = .ok (.iload_n 0, 1) := by decide +kernel
theorem dX11_isSpan_15 : decode cX11_isSpan 15 = .ok (.iload_n 1, 1) := by decide +kernel
theorem dX11_isSpan_16 : decode cX11_isSpan 16 = .ok (.if_icmp .gt 7, 3) := by decide +kernel
theorem dX11_isSpan_19 : decode cX11_isSpan 19 = .ok (.iconst 1, 1) := by decide +kernel
theorem dX11_isSpan_20 : decode cX11_isSpan 20 = .ok (.goto 4, 3) := by decide +kernel
theorem dX11_isSpan_23 : decode cX11_isSpan 23 = .ok (.iconst 0, 1) := by decide +kernel
theorem dX11_isSpan_24 : decode cX11_isSpan 24 = .ok (.ireturn, 1) := by decide +kernel
abbrev rmX11_isSpan : Room := { frames := 1, cells := 0, slots := 0, locals := 20 }
set_option maxHeartbeats 4000000 in
set_option maxRecDepth 100000 in
theorem kX11_isSpan (l : Launch) (D : va_G) (cy : Nat → ClassId) (p1 : Int32) (p2 : Int32) (res : Int32) (h : fX11_isSpan p1 p2 = res) : CZ l D cy yX11_isSpan wsX11_isSpan rmX11_isSpan [.int p1, .int p2] (flat []) (flat []) res := by
  refine CZ.of (cc := cX11_isSpan) (maxL := 2) (by decide) rfl (Nat.le_of_ble_eq_true rfl) ?_
  intro p e s m args below meth c A QQ ls E hr
  obtain ⟨hx, hb, hml, hown, hts, hK, hN, hP, hD, hA, hl⟩ := E
  have hret : ∀ (pc : Nat) (H : Heap) (locs : List Loc) (ls : Array Slot) (u : Int32), u = res → va_P D vwCl (flat []) H → va_D A (flat []) → va_S A s.heap H locs → isb u = true → decode cX11_isSpan pc = .ok (.ireturn, 1) → W p l e rmX11_isSpan s m args below meth c H locs 0 0 QQ (F0 m pc ls [.int u]) := by
    intro pc H locs ls u hu hP hD hS hz hd; subst hu; exact hr pc H locs ls _ rfl hP hD hS hz hd
  clear hr
  have hl : lv_has ls 2 [(0, .int p1), (1, .int p2)] := hl
  unfold fX11_isSpan at h
  suffices key : ∀ (H : Heap) (locs : List Loc), va_P D vwCl (flat []) H → va_S A s.heap H locs → W p l e rmX11_isSpan s m args below meth c H locs 0 0 QQ (F0 m 0 ls []) from key _ _ hP va_S.rf
  clear hP
  intro H locs hP hS
  refine lv_iload_n hx hb dX11_isSpan_0 rfl (lv_at hl 0 rfl) ?_
  refine ca_z (w' := []) (rn_S (As := [.int p1]) (rest := []) ⟨hx, hb, hml, hown, hts⟩ (kX11_isAsked l D cy p1 _ rfl H.size) (va_cwS 1 hts gX11_isSpan_X11_isAsked rfl rfl rfl (by decide +kernel) ⟨Nat.le_of_ble_eq_true rfl, Nat.le_of_ble_eq_true rfl⟩) hK hN hP hD [] rfl rfl rfl hl.1 rfl (Nat.le_of_ble_eq_true rfl) dX11_isSpan_1 ⟨Nat.le_refl 0, Nat.le_refl 0⟩) hP hD hS hA [] ⟨rfl, rfl, rfl, rfl⟩ (fun b1 H locs hP hD hS => ?_)
  refine lv_if_eq (tgt := 23) hx hb dX11_isSpan_4 (by decide) (fun c2 => ?_) (fun c2 => ?_)
  · replace h := (if_pos c2).symm.trans h
    refine lv_iconst (v := 0) hx hb dX11_isSpan_23 (by decide) ?_
    exact hret 24 H locs ls (0 : Int32) h hP hD hS (show isb (0 : Int32) = true by decide) dX11_isSpan_24
  · replace h := (if_neg c2).symm.trans h
    refine lv_iload_n hx hb dX11_isSpan_7 rfl (lv_at hl 1 rfl) ?_
    refine ca_z (w' := []) (rn_S (As := [.int p2]) (rest := []) ⟨hx, hb, hml, hown, hts⟩ (kX11_isAsked l D cy p2 _ rfl H.size) (va_cwS 1 hts gX11_isSpan_X11_isAsked rfl rfl rfl (by decide +kernel) ⟨Nat.le_of_ble_eq_true rfl, Nat.le_of_ble_eq_true rfl⟩) hK hN hP hD [] rfl rfl rfl hl.1 rfl (Nat.le_of_ble_eq_true rfl) dX11_isSpan_8 ⟨Nat.le_refl 0, Nat.le_refl 0⟩) hP hD hS hA [] ⟨rfl, rfl, rfl, rfl⟩ (fun b3 H locs hP hD hS => ?_)
    refine lv_if_eq (tgt := 23) hx hb dX11_isSpan_11 (by decide) (fun c4 => ?_) (fun c4 => ?_)
    · replace h := (if_pos c4).symm.trans h
      refine lv_iconst (v := 0) hx hb dX11_isSpan_23 (by decide) ?_
      exact hret 24 H locs ls (0 : Int32) h hP hD hS (show isb (0 : Int32) = true by decide) dX11_isSpan_24
    · replace h := (if_neg c4).symm.trans h
      refine lv_iload_n hx hb dX11_isSpan_14 rfl (lv_at hl 0 rfl) ?_
      refine lv_iload_n hx hb dX11_isSpan_15 rfl (lv_at hl 1 rfl) ?_
      refine lv_icmp_gt (tgt := 23) hx hb dX11_isSpan_16 (by decide) (fun c5 => ?_) (fun c5 => ?_)
      · replace h := (if_pos c5).symm.trans h
        refine lv_iconst (v := 0) hx hb dX11_isSpan_23 (by decide) ?_
        exact hret 24 H locs ls (0 : Int32) h hP hD hS (show isb (0 : Int32) = true by decide) dX11_isSpan_24
      · replace h := (if_neg c5).symm.trans h
        refine lv_iconst (v := 1) hx hb dX11_isSpan_19 (by decide) ?_
        refine lv_goto (tgt := 24) hx hb dX11_isSpan_20 (by decide) ?_
        exact hret 24 H locs ls (1 : Int32) h hP hD hS (show isb (1 : Int32) = true by decide) dX11_isSpan_24
theorem dX11_isTray_0 : decode cX11_isTray 0 = .ok (.iload_n 0, 1) := by decide +kernel
theorem dX11_isTray_1 : decode cX11_isTray 1 = .ok (.ifCond .lt 12, 3) := by decide +kernel
theorem dX11_isTray_4 : decode cX11_isTray 4 = .ok (.iload_n 0, 1) := by decide +kernel
theorem dX11_isTray_5 : decode cX11_isTray 5 = .ok (.iconst 4, 1) := by decide +kernel
theorem dX11_isTray_6 : decode cX11_isTray 6 = .ok (.if_icmp .ge 7, 3) := by decide +kernel
theorem dX11_isTray_9 : decode cX11_isTray 9 = .ok (.iconst 1, 1) := by decide +kernel
theorem dX11_isTray_10 : decode cX11_isTray 10 = .ok (.goto 4, 3) := by decide +kernel
theorem dX11_isTray_13 : decode cX11_isTray 13 = .ok (.iconst 0, 1) := by decide +kernel
theorem dX11_isTray_14 : decode cX11_isTray 14 = .ok (.ireturn, 1) := by decide +kernel
abbrev rmX11_isTray : Room := { frames := 0, cells := 0, slots := 0, locals := 0 }
set_option maxHeartbeats 4000000 in
set_option maxRecDepth 100000 in
theorem kX11_isTray (l : Launch) (D : va_G) (cy : Nat → ClassId) (p1 : Int32) (res : Int32) (h : fX11_isTray p1 = res) : CZ l D cy yX11_isTray wsX11_isTray rmX11_isTray [.int p1] (flat []) (flat []) res := by
  refine CZ.of (cc := cX11_isTray) (maxL := 1) (by decide) rfl (Nat.le_of_ble_eq_true rfl) ?_
  intro p e s m args below meth c A QQ ls E hr
  obtain ⟨hx, hb, hml, hown, hts, hK, hN, hP, hD, hA, hl⟩ := E
  have hret : ∀ (pc : Nat) (H : Heap) (locs : List Loc) (ls : Array Slot) (u : Int32), u = res → va_P D vwCl (flat []) H → va_D A (flat []) → va_S A s.heap H locs → isb u = true → decode cX11_isTray pc = .ok (.ireturn, 1) → W p l e rmX11_isTray s m args below meth c H locs 0 0 QQ (F0 m pc ls [.int u]) := by
    intro pc H locs ls u hu hP hD hS hz hd; subst hu; exact hr pc H locs ls _ rfl hP hD hS hz hd
  clear hr
  have hl : lv_has ls 1 [(0, .int p1)] := hl
  unfold fX11_isTray at h
  suffices key : ∀ (H : Heap) (locs : List Loc), va_P D vwCl (flat []) H → va_S A s.heap H locs → W p l e rmX11_isTray s m args below meth c H locs 0 0 QQ (F0 m 0 ls []) from key _ _ hP va_S.rf
  clear hP
  intro H locs hP hS
  refine lv_iload_n hx hb dX11_isTray_0 rfl (lv_at hl 0 rfl) ?_
  refine lv_if_lt (tgt := 13) hx hb dX11_isTray_1 (by decide) (fun c1 => ?_) (fun c1 => ?_)
  · replace h := (if_pos c1).symm.trans h
    refine lv_iconst (v := 0) hx hb dX11_isTray_13 (by decide) ?_
    exact hret 14 H locs ls (0 : Int32) h hP hD hS (show isb (0 : Int32) = true by decide) dX11_isTray_14
  · replace h := (if_neg c1).symm.trans h
    refine lv_iload_n hx hb dX11_isTray_4 rfl (lv_at hl 0 rfl) ?_
    refine lv_iconst (v := 4) hx hb dX11_isTray_5 (by decide) ?_
    refine lv_icmp_ge (tgt := 13) hx hb dX11_isTray_6 (by decide) (fun c2 => ?_) (fun c2 => ?_)
    · replace h := (if_pos c2).symm.trans h
      refine lv_iconst (v := 0) hx hb dX11_isTray_13 (by decide) ?_
      exact hret 14 H locs ls (0 : Int32) h hP hD hS (show isb (0 : Int32) = true by decide) dX11_isTray_14
    · replace h := (if_neg c2).symm.trans h
      refine lv_iconst (v := 1) hx hb dX11_isTray_9 (by decide) ?_
      refine lv_goto (tgt := 14) hx hb dX11_isTray_10 (by decide) ?_
      exact hret 14 H locs ls (1 : Int32) h hP hD hS (show isb (1 : Int32) = true by decide) dX11_isTray_14
theorem gd_X11_kept : wsX11_kept.all goodWord = true := by decide +kernel
set_option maxRecDepth 20000 in
theorem ggX11_kept_X11_keptOf : GoodIn wsX11_kept wsX11_keptOf := goodIn_by gd_X11_kept (List.forall_mem_cons.mpr ⟨List.mem_cons_of_mem _ (List.mem_append_left _ (List.mem_append_left _ (List.mem_of_getElem? (i := 4) rfl))), List.forall_mem_append.mpr ⟨List.forall_mem_append.mpr ⟨List.forall_mem_cons.mpr ⟨List.mem_cons_of_mem _ (List.mem_append_left _ (List.mem_append_left _ (List.mem_of_getElem? (i := 5) rfl))), List.forall_mem_cons.mpr ⟨List.mem_cons_of_mem _ (List.mem_append_left _ (List.mem_append_left _ (List.mem_of_getElem? (i := 6) rfl))), List.forall_mem_cons.mpr ⟨List.mem_cons_of_mem _ (List.mem_append_left _ (List.mem_append_left _ (List.mem_of_getElem? (i := 7) rfl))), List.forall_mem_cons.mpr ⟨List.mem_cons_of_mem _ (List.mem_append_left _ (List.mem_append_left _ (List.mem_of_getElem? (i := 8) rfl))), List.forall_mem_cons.mpr ⟨List.mem_cons_of_mem _ (List.mem_append_left _ (List.mem_append_left _ (List.mem_of_getElem? (i := 3) rfl))), List.forall_mem_cons.mpr ⟨List.mem_cons_of_mem _ (List.mem_append_left _ (List.mem_append_left _ (List.mem_of_getElem? (i := 9) rfl))), List.forall_mem_cons.mpr ⟨List.mem_cons_of_mem _ (List.mem_append_left _ (List.mem_append_left _ (List.mem_of_getElem? (i := 10) rfl))), List.forall_mem_cons.mpr ⟨List.mem_cons_of_mem _ (List.mem_append_left _ (List.mem_append_left _ (List.mem_of_getElem? (i := 11) rfl))), List.forall_mem_cons.mpr ⟨List.mem_cons_of_mem _ (List.mem_append_left _ (List.mem_append_left _ (List.mem_of_getElem? (i := 12) rfl))), List.forall_mem_cons.mpr ⟨List.mem_cons_of_mem _ (List.mem_append_left _ (List.mem_append_left _ (List.mem_of_getElem? (i := 13) rfl))), List.forall_mem_cons.mpr ⟨List.mem_cons_of_mem _ (List.mem_append_left _ (List.mem_append_left _ (List.mem_of_getElem? (i := 14) rfl))), List.forall_mem_cons.mpr ⟨List.mem_cons_of_mem _ (List.mem_append_left _ (List.mem_append_left _ (List.mem_of_getElem? (i := 15) rfl))), List.forall_mem_cons.mpr ⟨List.mem_cons_of_mem _ (List.mem_append_left _ (List.mem_append_left _ (List.mem_of_getElem? (i := 16) rfl))), List.forall_mem_cons.mpr ⟨List.mem_cons_of_mem _ (List.mem_append_left _ (List.mem_append_left _ (List.mem_of_getElem? (i := 17) rfl))), List.forall_mem_cons.mpr ⟨List.mem_cons_of_mem _ (List.mem_append_left _ (List.mem_append_left _ (List.mem_of_getElem? (i := 18) rfl))), List.forall_mem_cons.mpr ⟨List.mem_cons_of_mem _ (List.mem_append_left _ (List.mem_append_left _ (List.mem_of_getElem? (i := 19) rfl))), List.forall_mem_cons.mpr ⟨List.mem_cons_of_mem _ (List.mem_append_left _ (List.mem_append_left _ (List.mem_of_getElem? (i := 20) rfl))), List.forall_mem_cons.mpr ⟨List.mem_cons_of_mem _ (List.mem_append_left _ (List.mem_append_left _ (List.mem_of_getElem? (i := 21) rfl))), List.forall_mem_cons.mpr ⟨List.mem_cons_of_mem _ (List.mem_append_left _ (List.mem_append_left _ (List.mem_of_getElem? (i := 22) rfl))), List.forall_mem_cons.mpr ⟨List.mem_cons_of_mem _ (List.mem_append_left _ (List.mem_append_left _ (List.mem_of_getElem? (i := 23) rfl))), List.forall_mem_cons.mpr ⟨List.mem_cons_of_mem _ (List.mem_append_left _ (List.mem_append_right _ (List.mem_of_getElem? (i := 0) rfl))), List.forall_mem_cons.mpr ⟨List.mem_cons_of_mem _ (List.mem_append_left _ (List.mem_append_right _ (List.mem_of_getElem? (i := 1) rfl))), List.forall_mem_cons.mpr ⟨List.mem_cons_of_mem _ (List.mem_append_left _ (List.mem_append_right _ (List.mem_of_getElem? (i := 2) rfl))), List.forall_mem_cons.mpr ⟨List.mem_cons_of_mem _ (List.mem_append_left _ (List.mem_append_right _ (List.mem_of_getElem? (i := 3) rfl))), nowords_in⟩⟩⟩⟩⟩⟩⟩⟩⟩⟩⟩⟩⟩⟩⟩⟩⟩⟩⟩⟩⟩⟩⟩⟩, List.forall_mem_cons.mpr ⟨List.mem_cons_of_mem _ (List.mem_append_left _ (List.mem_append_right _ (List.mem_of_getElem? (i := 4) rfl))), List.forall_mem_cons.mpr ⟨List.mem_cons_of_mem _ (List.mem_append_left _ (List.mem_append_right _ (List.mem_of_getElem? (i := 5) rfl))), List.forall_mem_cons.mpr ⟨List.mem_cons_of_mem _ (List.mem_append_left _ (List.mem_append_right _ (List.mem_of_getElem? (i := 6) rfl))), List.forall_mem_cons.mpr ⟨List.mem_cons_of_mem _ (List.mem_append_left _ (List.mem_append_right _ (List.mem_of_getElem? (i := 7) rfl))), List.forall_mem_cons.mpr ⟨List.mem_cons_of_mem _ (List.mem_append_left _ (List.mem_append_right _ (List.mem_of_getElem? (i := 8) rfl))), List.forall_mem_cons.mpr ⟨List.mem_cons_of_mem _ (List.mem_append_left _ (List.mem_append_right _ (List.mem_of_getElem? (i := 9) rfl))), List.forall_mem_cons.mpr ⟨List.mem_cons_of_mem _ (List.mem_append_left _ (List.mem_append_right _ (List.mem_of_getElem? (i := 10) rfl))), List.forall_mem_cons.mpr ⟨List.mem_cons_of_mem _ (List.mem_append_left _ (List.mem_append_right _ (List.mem_of_getElem? (i := 11) rfl))), List.forall_mem_cons.mpr ⟨List.mem_cons_of_mem _ (List.mem_append_left _ (List.mem_append_right _ (List.mem_of_getElem? (i := 12) rfl))), List.forall_mem_cons.mpr ⟨List.mem_cons_of_mem _ (List.mem_append_left _ (List.mem_append_right _ (List.mem_of_getElem? (i := 13) rfl))), nowords_in⟩⟩⟩⟩⟩⟩⟩⟩⟩⟩⟩, (fun _ h => List.mem_cons_of_mem _ (List.mem_append_right _ (h)))⟩⟩)
set_option maxRecDepth 20000 in
theorem gX11_kept_X11_keptOf : GoodIn wsX11_kept (wsV RX11 338 RX11 yX11_keptOf wsX11_keptOf) := goodIn_app (goodIn_by gd_X11_kept (List.forall_mem_cons.mpr ⟨List.mem_cons_of_mem _ (List.mem_append_left _ (List.mem_append_left _ (List.mem_of_getElem? (i := 0) rfl))), List.forall_mem_cons.mpr ⟨List.mem_cons_of_mem _ (List.mem_append_left _ (List.mem_append_left _ (List.mem_of_getElem? (i := 1) rfl))), List.forall_mem_cons.mpr ⟨List.mem_cons_of_mem _ (List.mem_append_left _ (List.mem_append_left _ (List.mem_of_getElem? (i := 2) rfl))), List.forall_mem_cons.mpr ⟨List.mem_cons_of_mem _ (List.mem_append_left _ (List.mem_append_left _ (List.mem_of_getElem? (i := 3) rfl))), nowords_in⟩⟩⟩⟩)) ggX11_kept_X11_keptOf
set_option maxRecDepth 20000 in
theorem ggX11_kept_X11_gives : GoodIn wsX11_kept wsX11_gives := goodIn_by gd_X11_kept (List.forall_mem_cons.mpr ⟨List.mem_cons_of_mem _ (List.mem_append_left _ (List.mem_append_right _ (List.mem_of_getElem? (i := 17) rfl))), List.forall_mem_append.mpr ⟨List.forall_mem_cons.mpr ⟨List.mem_cons_of_mem _ (List.mem_append_left _ (List.mem_append_right _ (List.mem_of_getElem? (i := 18) rfl))), nowords_in⟩, (fun _ h => List.mem_cons_of_mem _ (List.mem_append_right _ (h)))⟩⟩)
set_option maxRecDepth 20000 in
theorem gX11_kept_X11_gives : GoodIn wsX11_kept (wsV RX11 79 RX11 yX11_gives wsX11_gives) := goodIn_app (goodIn_by gd_X11_kept (List.forall_mem_cons.mpr ⟨List.mem_cons_of_mem _ (List.mem_append_left _ (List.mem_append_right _ (List.mem_of_getElem? (i := 14) rfl))), List.forall_mem_cons.mpr ⟨List.mem_cons_of_mem _ (List.mem_append_left _ (List.mem_append_right _ (List.mem_of_getElem? (i := 15) rfl))), List.forall_mem_cons.mpr ⟨List.mem_cons_of_mem _ (List.mem_append_left _ (List.mem_append_right _ (List.mem_of_getElem? (i := 16) rfl))), List.forall_mem_cons.mpr ⟨List.mem_cons_of_mem _ (List.mem_append_left _ (List.mem_append_left _ (List.mem_of_getElem? (i := 3) rfl))), nowords_in⟩⟩⟩⟩)) ggX11_kept_X11_gives
theorem dX11_kept_0 : decode cX11_kept 0 = .ok (.aload_n 0, 1) := by decide +kernel
theorem dX11_kept_1 : decode cX11_kept 1 = .ok (.aload_n 0, 1) := by decide +kernel
theorem dX11_kept_2 : decode cX11_kept 2 = .ok (.invokevirtual 338, 3) := by decide +kernel
theorem dX11_kept_5 : decode cX11_kept 5 = .ok (.invokevirtual 79, 3) := by decide +kernel
theorem dX11_kept_8 : decode cX11_kept 8 = .ok (.ireturn, 1) := by decide +kernel
abbrev rmX11_kept : Room := { frames := 5, cells := 0, slots := 0, locals := 114 }
set_option maxHeartbeats 4000000 in
set_option maxRecDepth 100000 in
theorem kX11_kept (l : Launch) (D : va_G) (cy : Nat → ClassId) (h0 : Nat) (a0 : Nat → Nat) (s0 : Rc) (res : Int32 × Rc) (h : fX11_kept s0 = some res) : CI l D cy yX11_kept wsX11_kept rmX11_kept [.ref h0] (flat [WX11 cy h0 a0 s0]) (flat [WX11 cy h0 a0 res.2]) res.1 := by
  refine CI.of (cc := cX11_kept) (maxL := 1) (by decide) rfl (Nat.le_of_ble_eq_true rfl) ?_
  intro p e s m args below meth c A QQ ls E hr
  obtain ⟨hx, hb, hml, hown, hts, hK, hN, hP, hD, hA, hl⟩ := E
  have hret : ∀ (pc : Nat) (H : Heap) (locs : List Loc) (ls : Array Slot) (u : Int32 × Rc), u = res → va_P D vwCl (flat [WX11 cy h0 a0 u.2]) H → va_D A (flat [WX11 cy h0 a0 u.2]) → va_S A s.heap H locs → decode cX11_kept pc = .ok (.ireturn, 1) → W p l e rmX11_kept s m args below meth c H locs 0 0 QQ (F0 m pc ls [.int u.1]) := by
    intro pc H locs ls u hu hP hD hS hd; subst hu; exact hr pc H locs ls _ rfl hP hD hS hd
  clear hr
  have hl : lv_has ls 1 [(0, .ref h0)] := hl
  unfold fX11_kept at h
  suffices key : ∀ (H : Heap) (locs : List Loc), va_P D vwCl (flat [WX11 cy h0 a0 s0]) H → va_S A s.heap H locs → W p l e rmX11_kept s m args below meth c H locs 0 0 QQ (F0 m 0 ls []) from key _ _ hP va_S.rf
  clear hP
  intro H locs hP hS
  refine lv_aload_n hx hb dX11_kept_0 rfl (lv_at hl 0 rfl) ?_
  refine lv_aload_n hx hb dX11_kept_1 rfl (lv_at hl 0 rfl) ?_
  obtain ⟨r1, hr1, h⟩ := bd_elim h
  refine ca_i (w' := [WX11 cy h0 a0 s0]) (rn_V (As := []) (rest := [.ref h0]) ⟨hx, hb, hml, hown, hts⟩ (kX11_keptOf l D cy h0 a0 s0 r1 hr1 H.size) (cwV 0 hts gX11_kept_X11_keptOf rfl rfl rfl (by decide +kernel) ⟨Nat.le_of_ble_eq_true rfl, Nat.le_of_ble_eq_true rfl⟩) hK hN hP hD [0] rfl rfl (ci := 11) (q0 := 0) rfl rfl rfl rfl hl.1 rfl (Nat.le_of_ble_eq_true rfl) dX11_kept_2 ⟨Nat.le_refl 0, Nat.le_refl 0⟩) hP hD hS hA [0] ⟨rfl, rfl, rfl, rfl⟩ (fun H locs hP hD hS => ?_)
  obtain ⟨r2, hr2, h⟩ := lt_elim h
  refine ca_i (w' := [WX11 cy h0 a0 r2.2]) (rn_V (As := [.int r1]) (rest := []) ⟨hx, hb, hml, hown, hts⟩ (kX11_gives l D cy h0 a0 s0 r1 r2 hr2.symm H.size) (cwV 1 hts gX11_kept_X11_gives rfl rfl rfl (by decide +kernel) ⟨Nat.le_of_ble_eq_true rfl, Nat.le_of_ble_eq_true rfl⟩) hK hN hP hD [0] rfl rfl (ci := 11) (q0 := 0) rfl rfl rfl rfl hl.1 rfl (Nat.le_of_ble_eq_true rfl) dX11_kept_5 ⟨Nat.le_refl 0, Nat.le_refl 0⟩) hP hD hS hA [0] ⟨rfl, rfl, rfl, rfl⟩ (fun H locs hP hD hS => ?_)
  exact hret 8 H locs ls (r2.1, r2.2) (Option.some.inj h) hP hD hS dX11_kept_8
theorem gd_X11_keptBy : wsX11_keptBy.all goodWord = true := by decide +kernel
set_option maxRecDepth 20000 in
theorem ggX11_keptBy_X11_isFrom : GoodIn wsX11_keptBy wsX11_isFrom := goodIn_by gd_X11_keptBy (List.forall_mem_cons.mpr ⟨List.mem_cons_of_mem _ (List.mem_append_left _ (List.mem_append_left _ (List.mem_of_getElem? (i := 4) rfl))), nowords_in⟩)
set_option maxRecDepth 20000 in
theorem gX11_keptBy_X11_isFrom : GoodIn wsX11_keptBy (va_wsS RX11 282 yX11_isFrom wsX11_isFrom) := goodIn_app (goodIn_by gd_X11_keptBy (List.forall_mem_cons.mpr ⟨List.mem_cons_of_mem _ (List.mem_append_left _ (List.mem_append_left _ (List.mem_of_getElem? (i := 1) rfl))), List.forall_mem_cons.mpr ⟨List.mem_cons_of_mem _ (List.mem_append_left _ (List.mem_append_left _ (List.mem_of_getElem? (i := 2) rfl))), List.forall_mem_cons.mpr ⟨List.mem_cons_of_mem _ (List.mem_append_left _ (List.mem_append_left _ (List.mem_of_getElem? (i := 3) rfl))), nowords_in⟩⟩⟩)) ggX11_keptBy_X11_isFrom
set_option maxRecDepth 20000 in
theorem ggX11_keptBy_X11_keptWith : GoodIn wsX11_keptBy wsX11_keptWith := goodIn_by gd_X11_keptBy (List.forall_mem_cons.mpr ⟨List.mem_cons_of_mem _ (List.mem_append_left _ (List.mem_append_left _ (List.mem_of_getElem? (i := 8) rfl))), List.forall_mem_append.mpr ⟨List.forall_mem_append.mpr ⟨List.forall_mem_cons.mpr ⟨List.mem_cons_of_mem _ (List.mem_append_left _ (List.mem_append_left _ (List.mem_of_getElem? (i := 9) rfl))), List.forall_mem_cons.mpr ⟨List.mem_cons_of_mem _ (List.mem_append_left _ (List.mem_append_left _ (List.mem_of_getElem? (i := 10) rfl))), List.forall_mem_cons.mpr ⟨List.mem_cons_of_mem _ (List.mem_append_left _ (List.mem_append_left _ (List.mem_of_getElem? (i := 11) rfl))), List.forall_mem_cons.mpr ⟨List.mem_cons_of_mem _ (List.mem_append_left _ (List.mem_append_left _ (List.mem_of_getElem? (i := 12) rfl))), List.forall_mem_cons.mpr ⟨List.mem_cons_of_mem _ (List.mem_append_left _ (List.mem_append_left _ (List.mem_of_getElem? (i := 3) rfl))), List.forall_mem_cons.mpr ⟨List.mem_cons_of_mem _ (List.mem_append_left _ (List.mem_append_left _ (List.mem_of_getElem? (i := 13) rfl))), List.forall_mem_cons.mpr ⟨List.mem_cons_of_mem _ (List.mem_append_left _ (List.mem_append_left _ (List.mem_of_getElem? (i := 14) rfl))), List.forall_mem_cons.mpr ⟨List.mem_cons_of_mem _ (List.mem_append_left _ (List.mem_append_left _ (List.mem_of_getElem? (i := 15) rfl))), List.forall_mem_cons.mpr ⟨List.mem_cons_of_mem _ (List.mem_append_left _ (List.mem_append_left _ (List.mem_of_getElem? (i := 16) rfl))), List.forall_mem_cons.mpr ⟨List.mem_cons_of_mem _ (List.mem_append_left _ (List.mem_append_left _ (List.mem_of_getElem? (i := 17) rfl))), List.forall_mem_cons.mpr ⟨List.mem_cons_of_mem _ (List.mem_append_left _ (List.mem_append_left _ (List.mem_of_getElem? (i := 18) rfl))), List.forall_mem_cons.mpr ⟨List.mem_cons_of_mem _ (List.mem_append_left _ (List.mem_append_left _ (List.mem_of_getElem? (i := 19) rfl))), List.forall_mem_cons.mpr ⟨List.mem_cons_of_mem _ (List.mem_append_left _ (List.mem_append_left _ (List.mem_of_getElem? (i := 20) rfl))), List.forall_mem_cons.mpr ⟨List.mem_cons_of_mem _ (List.mem_append_left _ (List.mem_append_left _ (List.mem_of_getElem? (i := 21) rfl))), List.forall_mem_cons.mpr ⟨List.mem_cons_of_mem _ (List.mem_append_left _ (List.mem_append_left _ (List.mem_of_getElem? (i := 22) rfl))), List.forall_mem_cons.mpr ⟨List.mem_cons_of_mem _ (List.mem_append_left _ (List.mem_append_left _ (List.mem_of_getElem? (i := 23) rfl))), List.forall_mem_cons.mpr ⟨List.mem_cons_of_mem _ (List.mem_append_left _ (List.mem_append_right _ (List.mem_append_left _ (List.mem_of_getElem? (i := 0) rfl)))), List.forall_mem_cons.mpr ⟨List.mem_cons_of_mem _ (List.mem_append_left _ (List.mem_append_right _ (List.mem_append_left _ (List.mem_of_getElem? (i := 1) rfl)))), List.forall_mem_cons.mpr ⟨List.mem_cons_of_mem _ (List.mem_append_left _ (List.mem_append_right _ (List.mem_append_left _ (List.mem_of_getElem? (i := 2) rfl)))), List.forall_mem_cons.mpr ⟨List.mem_cons_of_mem _ (List.mem_append_left _ (List.mem_append_right _ (List.mem_append_left _ (List.mem_of_getElem? (i := 3) rfl)))), List.forall_mem_cons.mpr ⟨List.mem_cons_of_mem _ (List.mem_append_left _ (List.mem_append_right _ (List.mem_append_left _ (List.mem_of_getElem? (i := 4) rfl)))), List.forall_mem_cons.mpr ⟨List.mem_cons_of_mem _ (List.mem_append_left _ (List.mem_append_right _ (List.mem_append_left _ (List.mem_of_getElem? (i := 5) rfl)))), List.forall_mem_cons.mpr ⟨List.mem_cons_of_mem _ (List.mem_append_left _ (List.mem_append_right _ (List.mem_append_left _ (List.mem_of_getElem? (i := 6) rfl)))), List.forall_mem_cons.mpr ⟨List.mem_cons_of_mem _ (List.mem_append_left _ (List.mem_append_right _ (List.mem_append_left _ (List.mem_of_getElem? (i := 7) rfl)))), nowords_in⟩⟩⟩⟩⟩⟩⟩⟩⟩⟩⟩⟩⟩⟩⟩⟩⟩⟩⟩⟩⟩⟩⟩⟩, List.forall_mem_cons.mpr ⟨List.mem_cons_of_mem _ (List.mem_append_left _ (List.mem_append_right _ (List.mem_append_left _ (List.mem_of_getElem? (i := 8) rfl)))), List.forall_mem_cons.mpr ⟨List.mem_cons_of_mem _ (List.mem_append_left _ (List.mem_append_right _ (List.mem_append_left _ (List.mem_of_getElem? (i := 9) rfl)))), List.forall_mem_cons.mpr ⟨List.mem_cons_of_mem _ (List.mem_append_left _ (List.mem_append_right _ (List.mem_append_left _ (List.mem_of_getElem? (i := 10) rfl)))), List.forall_mem_cons.mpr ⟨List.mem_cons_of_mem _ (List.mem_append_left _ (List.mem_append_right _ (List.mem_append_left _ (List.mem_of_getElem? (i := 11) rfl)))), List.forall_mem_cons.mpr ⟨List.mem_cons_of_mem _ (List.mem_append_left _ (List.mem_append_right _ (List.mem_append_left _ (List.mem_of_getElem? (i := 12) rfl)))), List.forall_mem_cons.mpr ⟨List.mem_cons_of_mem _ (List.mem_append_left _ (List.mem_append_right _ (List.mem_append_left _ (List.mem_of_getElem? (i := 13) rfl)))), List.forall_mem_cons.mpr ⟨List.mem_cons_of_mem _ (List.mem_append_left _ (List.mem_append_right _ (List.mem_append_left _ (List.mem_of_getElem? (i := 14) rfl)))), List.forall_mem_cons.mpr ⟨List.mem_cons_of_mem _ (List.mem_append_left _ (List.mem_append_right _ (List.mem_append_left _ (List.mem_of_getElem? (i := 15) rfl)))), List.forall_mem_cons.mpr ⟨List.mem_cons_of_mem _ (List.mem_append_left _ (List.mem_append_right _ (List.mem_append_left _ (List.mem_of_getElem? (i := 16) rfl)))), List.forall_mem_cons.mpr ⟨List.mem_cons_of_mem _ (List.mem_append_left _ (List.mem_append_right _ (List.mem_append_left _ (List.mem_of_getElem? (i := 17) rfl)))), List.forall_mem_cons.mpr ⟨List.mem_cons_of_mem _ (List.mem_append_left _ (List.mem_append_right _ (List.mem_append_left _ (List.mem_of_getElem? (i := 18) rfl)))), List.forall_mem_cons.mpr ⟨List.mem_cons_of_mem _ (List.mem_append_left _ (List.mem_append_right _ (List.mem_append_left _ (List.mem_of_getElem? (i := 19) rfl)))), List.forall_mem_cons.mpr ⟨List.mem_cons_of_mem _ (List.mem_append_left _ (List.mem_append_right _ (List.mem_append_left _ (List.mem_of_getElem? (i := 20) rfl)))), List.forall_mem_cons.mpr ⟨List.mem_cons_of_mem _ (List.mem_append_left _ (List.mem_append_right _ (List.mem_append_left _ (List.mem_of_getElem? (i := 21) rfl)))), nowords_in⟩⟩⟩⟩⟩⟩⟩⟩⟩⟩⟩⟩⟩⟩⟩, (fun _ h => List.mem_cons_of_mem _ (List.mem_append_right _ (h)))⟩⟩)
set_option maxRecDepth 20000 in
theorem gX11_keptBy_X11_keptWith : GoodIn wsX11_keptBy (wsV RX11 354 RX11 yX11_keptWith wsX11_keptWith) := goodIn_app (goodIn_by gd_X11_keptBy (List.forall_mem_cons.mpr ⟨List.mem_cons_of_mem _ (List.mem_append_left _ (List.mem_append_left _ (List.mem_of_getElem? (i := 5) rfl))), List.forall_mem_cons.mpr ⟨List.mem_cons_of_mem _ (List.mem_append_left _ (List.mem_append_left _ (List.mem_of_getElem? (i := 6) rfl))), List.forall_mem_cons.mpr ⟨List.mem_cons_of_mem _ (List.mem_append_left _ (List.mem_append_left _ (List.mem_of_getElem? (i := 7) rfl))), List.forall_mem_cons.mpr ⟨List.mem_cons_of_mem _ (List.mem_append_left _ (List.mem_append_left _ (List.mem_of_getElem? (i := 3) rfl))), nowords_in⟩⟩⟩⟩)) ggX11_keptBy_X11_keptWith
set_option maxRecDepth 20000 in
theorem ggX11_keptBy_X11_gives : GoodIn wsX11_keptBy wsX11_gives := goodIn_by gd_X11_keptBy (List.forall_mem_cons.mpr ⟨List.mem_cons_of_mem _ (List.mem_append_left _ (List.mem_append_right _ (List.mem_append_right _ (List.mem_of_getElem? (i := 1) rfl)))), List.forall_mem_append.mpr ⟨List.forall_mem_cons.mpr ⟨List.mem_cons_of_mem _ (List.mem_append_left _ (List.mem_append_right _ (List.mem_append_right _ (List.mem_of_getElem? (i := 2) rfl)))), nowords_in⟩, (fun _ h => List.mem_cons_of_mem _ (List.mem_append_right _ (h)))⟩⟩)
set_option maxRecDepth 20000 in
theorem gX11_keptBy_X11_gives : GoodIn wsX11_keptBy (wsV RX11 79 RX11 yX11_gives wsX11_gives) := goodIn_app (goodIn_by gd_X11_keptBy (List.forall_mem_cons.mpr ⟨List.mem_cons_of_mem _ (List.mem_append_left _ (List.mem_append_right _ (List.mem_append_left _ (List.mem_of_getElem? (i := 22) rfl)))), List.forall_mem_cons.mpr ⟨List.mem_cons_of_mem _ (List.mem_append_left _ (List.mem_append_right _ (List.mem_append_left _ (List.mem_of_getElem? (i := 23) rfl)))), List.forall_mem_cons.mpr ⟨List.mem_cons_of_mem _ (List.mem_append_left _ (List.mem_append_right _ (List.mem_append_right _ (List.mem_of_getElem? (i := 0) rfl)))), List.forall_mem_cons.mpr ⟨List.mem_cons_of_mem _ (List.mem_append_left _ (List.mem_append_left _ (List.mem_of_getElem? (i := 3) rfl))), nowords_in⟩⟩⟩⟩)) ggX11_keptBy_X11_gives
set_option maxRecDepth 20000 in
theorem ggX11_keptBy_X11_refuse : GoodIn wsX11_keptBy wsX11_refuse := goodIn_by gd_X11_keptBy (List.forall_mem_cons.mpr ⟨List.mem_cons_of_mem _ (List.mem_append_left _ (List.mem_append_right _ (List.mem_append_right _ (List.mem_of_getElem? (i := 6) rfl)))), List.forall_mem_append.mpr ⟨List.forall_mem_cons.mpr ⟨List.mem_cons_of_mem _ (List.mem_append_left _ (List.mem_append_right _ (List.mem_append_right _ (List.mem_of_getElem? (i := 2) rfl)))), nowords_in⟩, (fun _ h => List.mem_cons_of_mem _ (List.mem_append_right _ (h)))⟩⟩)
set_option maxRecDepth 20000 in
theorem gX11_keptBy_X11_refuse : GoodIn wsX11_keptBy (wsV RX11 75 RX11 yX11_refuse wsX11_refuse) := goodIn_app (goodIn_by gd_X11_keptBy (List.forall_mem_cons.mpr ⟨List.mem_cons_of_mem _ (List.mem_append_left _ (List.mem_append_right _ (List.mem_append_right _ (List.mem_of_getElem? (i := 3) rfl)))), List.forall_mem_cons.mpr ⟨List.mem_cons_of_mem _ (List.mem_append_left _ (List.mem_append_right _ (List.mem_append_right _ (List.mem_of_getElem? (i := 4) rfl)))), List.forall_mem_cons.mpr ⟨List.mem_cons_of_mem _ (List.mem_append_left _ (List.mem_append_right _ (List.mem_append_right _ (List.mem_of_getElem? (i := 5) rfl)))), List.forall_mem_cons.mpr ⟨List.mem_cons_of_mem _ (List.mem_append_left _ (List.mem_append_left _ (List.mem_of_getElem? (i := 3) rfl))), nowords_in⟩⟩⟩⟩)) ggX11_keptBy_X11_refuse
theorem dX11_keptBy_0 : decode cX11_keptBy 0 = .ok (.iload_n 1, 1) := by decide +kernel
theorem dX11_keptBy_1 : decode cX11_keptBy 1 = .ok (.i2l, 1) := by decide +kernel
theorem dX11_keptBy_2 : decode cX11_keptBy 2 = .ok (.lconst 0, 1) := by decide +kernel
theorem dX11_keptBy_3 : decode cX11_keptBy 3 = .ok (.ldc2_w 352, 3) := by decide +kernel
theorem dX11_keptBy_6 : decode cX11_keptBy 6 = .ok (.invokestatic 282, 3) := by decide +kernel
theorem dX11_keptBy_9 : decode cX11_keptBy 9 = .ok (.ifCond .eq 15, 3) := by decide +kernel
theorem dX11_keptBy_12 : decode cX11_keptBy 12 = .ok (.aload_n 0, 1) := by decide +kernel
theorem dX11_keptBy_13 : decode cX11_keptBy 13 = .ok (.aload_n 0, 1) := by decide +kernel
theorem dX11_keptBy_14 : decode cX11_keptBy 14 = .ok (.iload_n 1, 1) := by decide +kernel
theorem dX11_keptBy_15 : decode cX11_keptBy 15 = .ok (.invokevirtual 354, 3) := by decide +kernel
theorem dX11_keptBy_18 : decode cX11_keptBy 18 = .ok (.invokevirtual 79, 3) := by decide +kernel
theorem dX11_keptBy_21 : decode cX11_keptBy 21 = .ok (.goto 8, 3) := by decide +kernel
theorem dX11_keptBy_24 : decode cX11_keptBy 24 = .ok (.aload_n 0, 1) := by decide +kernel
theorem dX11_keptBy_25 : decode cX11_keptBy 25 = .ok (.iconst 1, 1) := by decide +kernel
theorem dX11_keptBy_26 : decode cX11_keptBy 26 = .ok (.invokevirtual 75, 3) := by decide +kernel
theorem dX11_keptBy_29 : decode cX11_keptBy 29 = .ok (.ireturn, 1) := by decide +kernel
abbrev rmX11_keptBy : Room := { frames := 6, cells := 0, slots := 0, locals := 137 }
set_option maxHeartbeats 4000000 in
set_option maxRecDepth 100000 in
theorem kX11_keptBy (l : Launch) (D : va_G) (cy : Nat → ClassId) (h0 : Nat) (a0 : Nat → Nat) (s0 : Rc) (p1 : Int32) (res : Int32 × Rc) (h : fX11_keptBy p1 s0 = some res) : CI l D cy yX11_keptBy wsX11_keptBy rmX11_keptBy [.ref h0, .int p1] (flat [WX11 cy h0 a0 s0]) (flat [WX11 cy h0 a0 res.2]) res.1 := by
  refine CI.of (cc := cX11_keptBy) (maxL := 2) (by decide) rfl (Nat.le_of_ble_eq_true rfl) ?_
  intro p e s m args below meth c A QQ ls E hr
  obtain ⟨hx, hb, hml, hown, hts, hK, hN, hP, hD, hA, hl⟩ := E
  have hret : ∀ (pc : Nat) (H : Heap) (locs : List Loc) (ls : Array Slot) (u : Int32 × Rc), u = res → va_P D vwCl (flat [WX11 cy h0 a0 u.2]) H → va_D A (flat [WX11 cy h0 a0 u.2]) → va_S A s.heap H locs → decode cX11_keptBy pc = .ok (.ireturn, 1) → W p l e rmX11_keptBy s m args below meth c H locs 0 0 QQ (F0 m pc ls [.int u.1]) := by
    intro pc H locs ls u hu hP hD hS hd; subst hu; exact hr pc H locs ls _ rfl hP hD hS hd
  clear hr
  have hl : lv_has ls 2 [(0, .ref h0), (1, .int p1)] := hl
  unfold fX11_keptBy at h
  suffices key : ∀ (H : Heap) (locs : List Loc), va_P D vwCl (flat [WX11 cy h0 a0 s0]) H → va_S A s.heap H locs → W p l e rmX11_keptBy s m args below meth c H locs 0 0 QQ (F0 m 0 ls []) from key _ _ hP va_S.rf
  clear hP
  intro H locs hP hS
  refine lv_iload_n hx hb dX11_keptBy_0 rfl (lv_at hl 1 rfl) ?_
  refine lv_i2l hx hb dX11_keptBy_1 rfl ?_
  refine lv_lconst (v := 0) hx hb dX11_keptBy_2 (by decide) ?_
  refine lv_ldc2 (v := 3) hx hb hown (hts (.constantLong RX11 352 (3)) (List.mem_of_getElem? (i := 1) rfl)) dX11_keptBy_3 ?_
  refine ca_z (w' := [WX11 cy h0 a0 s0]) (rn_S (As := [.long p1.toInt64, .long (0 : Int64), .long (3 : Int64)]) (rest := []) ⟨hx, hb, hml, hown, hts⟩ (kX11_isFrom l D cy p1.toInt64 (0 : Int64) (3 : Int64) _ rfl H.size) (va_cwS 3 hts gX11_keptBy_X11_isFrom rfl rfl rfl (by decide +kernel) ⟨Nat.le_of_ble_eq_true rfl, Nat.le_of_ble_eq_true rfl⟩) hK hN hP hD [] rfl rfl rfl hl.1 rfl (Nat.le_of_ble_eq_true rfl) dX11_keptBy_6 ⟨Nat.le_refl 0, Nat.le_refl 0⟩) hP hD hS hA [] ⟨rfl, rfl, rfl, rfl⟩ (fun b1 H locs hP hD hS => ?_)
  refine lv_if_eq (tgt := 24) hx hb dX11_keptBy_9 (by decide) (fun c2 => ?_) (fun c2 => ?_)
  · replace h := (if_pos c2).symm.trans h
    refine lv_aload_n hx hb dX11_keptBy_24 rfl (lv_at hl 0 rfl) ?_
    refine lv_iconst (v := 1) hx hb dX11_keptBy_25 (by decide) ?_
    obtain ⟨r3, hr3, h⟩ := lt_elim h
    refine ca_i (w' := [WX11 cy h0 a0 r3.2]) (rn_V (As := [.int (1 : Int32)]) (rest := []) ⟨hx, hb, hml, hown, hts⟩ (kX11_refuse l D cy h0 a0 s0 (1 : Int32) r3 hr3.symm H.size) (cwV 1 hts gX11_keptBy_X11_refuse rfl rfl rfl (by decide +kernel) ⟨Nat.le_of_ble_eq_true rfl, Nat.le_of_ble_eq_true rfl⟩) hK hN hP hD [0] rfl rfl (ci := 11) (q0 := 0) rfl rfl rfl rfl hl.1 rfl (Nat.le_of_ble_eq_true rfl) dX11_keptBy_26 ⟨Nat.le_refl 0, Nat.le_refl 0⟩) hP hD hS hA [0] ⟨rfl, rfl, rfl, rfl⟩ (fun H locs hP hD hS => ?_)
    exact hret 29 H locs ls (r3.1, r3.2) (Option.some.inj h) hP hD hS dX11_keptBy_29
  · replace h := (if_neg c2).symm.trans h
    refine lv_aload_n hx hb dX11_keptBy_12 rfl (lv_at hl 0 rfl) ?_
    refine lv_aload_n hx hb dX11_keptBy_13 rfl (lv_at hl 0 rfl) ?_
    refine lv_iload_n hx hb dX11_keptBy_14 rfl (lv_at hl 1 rfl) ?_
    obtain ⟨r4, hr4, h⟩ := bd_elim h
    refine ca_i (w' := [WX11 cy h0 a0 r4.2]) (rn_V (As := [.int p1]) (rest := [.ref h0]) ⟨hx, hb, hml, hown, hts⟩ (kX11_keptWith l D cy h0 a0 s0 p1 r4 hr4 H.size) (cwV 1 hts gX11_keptBy_X11_keptWith rfl rfl rfl (by decide +kernel) ⟨Nat.le_of_ble_eq_true rfl, Nat.le_of_ble_eq_true rfl⟩) hK hN hP hD [0] rfl rfl (ci := 11) (q0 := 0) rfl rfl rfl rfl hl.1 rfl (Nat.le_of_ble_eq_true rfl) dX11_keptBy_15 ⟨Nat.le_refl 0, Nat.le_refl 0⟩) hP hD hS hA [0] ⟨rfl, rfl, rfl, rfl⟩ (fun H locs hP hD hS => ?_)
    obtain ⟨r5, hr5, h⟩ := lt_elim h
    refine ca_i (w' := [WX11 cy h0 a0 r5.2]) (rn_V (As := [.int r4.1]) (rest := []) ⟨hx, hb, hml, hown, hts⟩ (kX11_gives l D cy h0 a0 r4.2 r4.1 r5 hr5.symm H.size) (cwV 1 hts gX11_keptBy_X11_gives rfl rfl rfl (by decide +kernel) ⟨Nat.le_of_ble_eq_true rfl, Nat.le_of_ble_eq_true rfl⟩) hK hN hP hD [0] rfl rfl (ci := 11) (q0 := 0) rfl rfl rfl rfl hl.1 rfl (Nat.le_of_ble_eq_true rfl) dX11_keptBy_18 ⟨Nat.le_refl 0, Nat.le_refl 0⟩) hP hD hS hA [0] ⟨rfl, rfl, rfl, rfl⟩ (fun H locs hP hD hS => ?_)
    refine lv_goto (tgt := 29) hx hb dX11_keptBy_21 (by decide) ?_
    exact hret 29 H locs ls (r5.1, r5.2) (Option.some.inj h) hP hD hS dX11_keptBy_29
theorem gd_X11_lag : wsX11_lag.all goodWord = true := by decide +kernel
set_option maxRecDepth 20000 in
theorem ggX11_lag_X11_isFarmer : GoodIn wsX11_lag wsX11_isFarmer := goodIn_by gd_X11_lag (List.forall_mem_cons.mpr ⟨List.mem_cons_of_mem _ (List.mem_append_left _ (List.mem_append_left _ (List.mem_of_getElem? (i := 4) rfl))), List.forall_mem_append.mpr ⟨List.forall_mem_cons.mpr ⟨List.mem_cons_of_mem _ (List.mem_append_left _ (List.mem_append_left _ (List.mem_of_getElem? (i := 5) rfl))), nowords_in⟩, (fun _ h => List.mem_cons_of_mem _ (List.mem_append_right _ (h)))⟩⟩)
set_option maxRecDepth 20000 in
theorem gX11_lag_X11_isFarmer : GoodIn wsX11_lag (wsV RX11 267 RX11 yX11_isFarmer wsX11_isFarmer) := goodIn_app (goodIn_by gd_X11_lag (List.forall_mem_cons.mpr ⟨List.mem_cons_of_mem _ (List.mem_append_left _ (List.mem_append_left _ (List.mem_of_getElem? (i := 0) rfl))), List.forall_mem_cons.mpr ⟨List.mem_cons_of_mem _ (List.mem_append_left _ (List.mem_append_left _ (List.mem_of_getElem? (i := 1) rfl))), List.forall_mem_cons.mpr ⟨List.mem_cons_of_mem _ (List.mem_append_left _ (List.mem_append_left _ (List.mem_of_getElem? (i := 2) rfl))), List.forall_mem_cons.mpr ⟨List.mem_cons_of_mem _ (List.mem_append_left _ (List.mem_append_left _ (List.mem_of_getElem? (i := 3) rfl))), nowords_in⟩⟩⟩⟩)) ggX11_lag_X11_isFarmer
set_option maxRecDepth 20000 in
theorem ggX11_lag_X11_refuse : GoodIn wsX11_lag wsX11_refuse := goodIn_by gd_X11_lag (List.forall_mem_cons.mpr ⟨List.mem_cons_of_mem _ (List.mem_append_left _ (List.mem_append_left _ (List.mem_of_getElem? (i := 9) rfl))), List.forall_mem_append.mpr ⟨List.forall_mem_cons.mpr ⟨List.mem_cons_of_mem _ (List.mem_append_left _ (List.mem_append_left _ (List.mem_of_getElem? (i := 10) rfl))), nowords_in⟩, (fun _ h => List.mem_cons_of_mem _ (List.mem_append_right _ (h)))⟩⟩)
set_option maxRecDepth 20000 in
theorem gX11_lag_X11_refuse : GoodIn wsX11_lag (wsV RX11 75 RX11 yX11_refuse wsX11_refuse) := goodIn_app (goodIn_by gd_X11_lag (List.forall_mem_cons.mpr ⟨List.mem_cons_of_mem _ (List.mem_append_left _ (List.mem_append_left _ (List.mem_of_getElem? (i := 6) rfl))), List.forall_mem_cons.mpr ⟨List.mem_cons_of_mem _ (List.mem_append_left _ (List.mem_append_left _ (List.mem_of_getElem? (i := 7) rfl))), List.forall_mem_cons.mpr ⟨List.mem_cons_of_mem _ (List.mem_append_left _ (List.mem_append_left _ (List.mem_of_getElem? (i := 8) rfl))), List.forall_mem_cons.mpr ⟨List.mem_cons_of_mem _ (List.mem_append_left _ (List.mem_append_left _ (List.mem_of_getElem? (i := 3) rfl))), nowords_in⟩⟩⟩⟩)) ggX11_lag_X11_refuse
set_option maxRecDepth 20000 in
theorem ggX11_lag_X11_fitsOf : GoodIn wsX11_lag wsX11_fitsOf := goodIn_by gd_X11_lag (List.forall_mem_cons.mpr ⟨List.mem_cons_of_mem _ (List.mem_append_left _ (List.mem_append_left _ (List.mem_of_getElem? (i := 14) rfl))), List.forall_mem_append.mpr ⟨List.forall_mem_cons.mpr ⟨List.mem_cons_of_mem _ (List.mem_append_left _ (List.mem_append_left _ (List.mem_of_getElem? (i := 5) rfl))), List.forall_mem_cons.mpr ⟨List.mem_cons_of_mem _ (List.mem_append_left _ (List.mem_append_left _ (List.mem_of_getElem? (i := 15) rfl))), List.forall_mem_cons.mpr ⟨List.mem_cons_of_mem _ (List.mem_append_left _ (List.mem_append_left _ (List.mem_of_getElem? (i := 16) rfl))), List.forall_mem_cons.mpr ⟨List.mem_cons_of_mem _ (List.mem_append_left _ (List.mem_append_left _ (List.mem_of_getElem? (i := 17) rfl))), List.forall_mem_cons.mpr ⟨List.mem_cons_of_mem _ (List.mem_append_left _ (List.mem_append_left _ (List.mem_of_getElem? (i := 3) rfl))), List.forall_mem_cons.mpr ⟨List.mem_cons_of_mem _ (List.mem_append_left _ (List.mem_append_left _ (List.mem_of_getElem? (i := 18) rfl))), List.forall_mem_cons.mpr ⟨List.mem_cons_of_mem _ (List.mem_append_left _ (List.mem_append_left _ (List.mem_of_getElem? (i := 19) rfl))), List.forall_mem_cons.mpr ⟨List.mem_cons_of_mem _ (List.mem_append_left _ (List.mem_append_left _ (List.mem_of_getElem? (i := 20) rfl))), List.forall_mem_cons.mpr ⟨List.mem_cons_of_mem _ (List.mem_append_left _ (List.mem_append_left _ (List.mem_of_getElem? (i := 21) rfl))), List.forall_mem_cons.mpr ⟨List.mem_cons_of_mem _ (List.mem_append_left _ (List.mem_append_left _ (List.mem_of_getElem? (i := 22) rfl))), List.forall_mem_cons.mpr ⟨List.mem_cons_of_mem _ (List.mem_append_left _ (List.mem_append_left _ (List.mem_of_getElem? (i := 23) rfl))), List.forall_mem_cons.mpr ⟨List.mem_cons_of_mem _ (List.mem_append_left _ (List.mem_append_right _ (List.mem_of_getElem? (i := 0) rfl))), List.forall_mem_cons.mpr ⟨List.mem_cons_of_mem _ (List.mem_append_left _ (List.mem_append_right _ (List.mem_of_getElem? (i := 1) rfl))), List.forall_mem_cons.mpr ⟨List.mem_cons_of_mem _ (List.mem_append_left _ (List.mem_append_right _ (List.mem_of_getElem? (i := 2) rfl))), List.forall_mem_cons.mpr ⟨List.mem_cons_of_mem _ (List.mem_append_left _ (List.mem_append_right _ (List.mem_of_getElem? (i := 3) rfl))), List.forall_mem_cons.mpr ⟨List.mem_cons_of_mem _ (List.mem_append_left _ (List.mem_append_right _ (List.mem_of_getElem? (i := 4) rfl))), List.forall_mem_cons.mpr ⟨List.mem_cons_of_mem _ (List.mem_append_left _ (List.mem_append_right _ (List.mem_of_getElem? (i := 5) rfl))), List.forall_mem_cons.mpr ⟨List.mem_cons_of_mem _ (List.mem_append_left _ (List.mem_append_right _ (List.mem_of_getElem? (i := 6) rfl))), List.forall_mem_cons.mpr ⟨List.mem_cons_of_mem _ (List.mem_append_left _ (List.mem_append_right _ (List.mem_of_getElem? (i := 7) rfl))), List.forall_mem_cons.mpr ⟨List.mem_cons_of_mem _ (List.mem_append_left _ (List.mem_append_right _ (List.mem_of_getElem? (i := 8) rfl))), nowords_in⟩⟩⟩⟩⟩⟩⟩⟩⟩⟩⟩⟩⟩⟩⟩⟩⟩⟩⟩⟩, (fun _ h => List.mem_cons_of_mem _ (List.mem_append_right _ (h)))⟩⟩)
set_option maxRecDepth 20000 in
theorem gX11_lag_X11_fitsOf : GoodIn wsX11_lag (wsV RX11 387 RX11 yX11_fitsOf wsX11_fitsOf) := goodIn_app (goodIn_by gd_X11_lag (List.forall_mem_cons.mpr ⟨List.mem_cons_of_mem _ (List.mem_append_left _ (List.mem_append_left _ (List.mem_of_getElem? (i := 11) rfl))), List.forall_mem_cons.mpr ⟨List.mem_cons_of_mem _ (List.mem_append_left _ (List.mem_append_left _ (List.mem_of_getElem? (i := 12) rfl))), List.forall_mem_cons.mpr ⟨List.mem_cons_of_mem _ (List.mem_append_left _ (List.mem_append_left _ (List.mem_of_getElem? (i := 13) rfl))), List.forall_mem_cons.mpr ⟨List.mem_cons_of_mem _ (List.mem_append_left _ (List.mem_append_left _ (List.mem_of_getElem? (i := 3) rfl))), nowords_in⟩⟩⟩⟩)) ggX11_lag_X11_fitsOf
set_option maxRecDepth 20000 in
theorem ggX11_lag_X11_gives : GoodIn wsX11_lag wsX11_gives := goodIn_by gd_X11_lag (List.forall_mem_cons.mpr ⟨List.mem_cons_of_mem _ (List.mem_append_left _ (List.mem_append_right _ (List.mem_of_getElem? (i := 12) rfl))), List.forall_mem_append.mpr ⟨List.forall_mem_cons.mpr ⟨List.mem_cons_of_mem _ (List.mem_append_left _ (List.mem_append_left _ (List.mem_of_getElem? (i := 10) rfl))), nowords_in⟩, (fun _ h => List.mem_cons_of_mem _ (List.mem_append_right _ (h)))⟩⟩)
set_option maxRecDepth 20000 in
theorem gX11_lag_X11_gives : GoodIn wsX11_lag (wsV RX11 79 RX11 yX11_gives wsX11_gives) := goodIn_app (goodIn_by gd_X11_lag (List.forall_mem_cons.mpr ⟨List.mem_cons_of_mem _ (List.mem_append_left _ (List.mem_append_right _ (List.mem_of_getElem? (i := 9) rfl))), List.forall_mem_cons.mpr ⟨List.mem_cons_of_mem _ (List.mem_append_left _ (List.mem_append_right _ (List.mem_of_getElem? (i := 10) rfl))), List.forall_mem_cons.mpr ⟨List.mem_cons_of_mem _ (List.mem_append_left _ (List.mem_append_right _ (List.mem_of_getElem? (i := 11) rfl))), List.forall_mem_cons.mpr ⟨List.mem_cons_of_mem _ (List.mem_append_left _ (List.mem_append_left _ (List.mem_of_getElem? (i := 3) rfl))), nowords_in⟩⟩⟩⟩)) ggX11_lag_X11_gives
theorem dX11_lag_0 : decode cX11_lag 0 = .ok (.aload_n 0, 1) := by decide +kernel
theorem dX11_lag_1 : decode cX11_lag 1 = .ok (.iload_n 1, 1) := by decide +kernel
theorem dX11_lag_2 : decode cX11_lag 2 = .ok (.invokevirtual 267, 3) := by decide +kernel
theorem dX11_lag_5 : decode cX11_lag 5 = .ok (.ifCond .ne 9, 3) := by decide +kernel
theorem dX11_lag_8 : decode cX11_lag 8 = .ok (.aload_n 0, 1) := by decide +kernel
theorem dX11_lag_9 : decode cX11_lag 9 = .ok (.iconst 1, 1) := by decide +kernel
theorem dX11_lag_10 : decode cX11_lag 10 = .ok (.invokevirtual 75, 3) := by decide +kernel
theorem dX11_lag_13 : decode cX11_lag 13 = .ok (.ireturn, 1) := by decide +kernel
theorem dX11_lag_14 : decode cX11_lag 14 = .ok (.iconst 0, 1) := by decide +kernel
theorem dX11_lag_15 : decode cX11_lag 15 = .ok (.istore_n 2, 1) := by decide +kernel
theorem dX11_lag_16 : decode cX11_lag 16 = .ok (.iconst 1, 1) := by decide +kernel
theorem dX11_lag_17 : decode cX11_lag 17 = .ok (.istore_n 3, 1) := by decide +kernel
theorem dX11_lag_18 : decode cX11_lag 18 = .ok (.iload_n 3, 1) := by decide +kernel
theorem dX11_lag_19 : decode cX11_lag 19 = .ok (.iconst 3, 1) := by decide +kernel
theorem dX11_lag_20 : decode cX11_lag 20 = .ok (.if_icmp .gt 45, 3) := by decide +kernel
theorem dX11_lag_23 : decode cX11_lag 23 = .ok (.aload_n 0, 1) := by decide +kernel
theorem dX11_lag_24 : decode cX11_lag 24 = .ok (.iload_n 1, 1) := by decide +kernel
theorem dX11_lag_25 : decode cX11_lag 25 = .ok (.iload_n 3, 1) := by decide +kernel
theorem dX11_lag_26 : decode cX11_lag 26 = .ok (.ineg, 1) := by decide +kernel
theorem dX11_lag_27 : decode cX11_lag 27 = .ok (.invokevirtual 387, 3) := by decide +kernel
theorem dX11_lag_30 : decode cX11_lag 30 = .ok (.aload_n 0, 1) := by decide +kernel
theorem dX11_lag_31 : decode cX11_lag 31 = .ok (.iload_n 1, 1) := by decide +kernel
theorem dX11_lag_32 : decode cX11_lag 32 = .ok (.iload_n 2, 1) := by decide +kernel
theorem dX11_lag_33 : decode cX11_lag 33 = .ok (.invokevirtual 387, 3) := by decide +kernel
theorem dX11_lag_36 : decode cX11_lag 36 = .ok (.if_icmp .le 6, 3) := by decide +kernel
theorem dX11_lag_39 : decode cX11_lag 39 = .ok (.iload_n 3, 1) := by decide +kernel
theorem dX11_lag_40 : decode cX11_lag 40 = .ok (.ineg, 1) := by decide +kernel
theorem dX11_lag_41 : decode cX11_lag 41 = .ok (.istore_n 2, 1) := by decide +kernel
theorem dX11_lag_42 : decode cX11_lag 42 = .ok (.aload_n 0, 1) := by decide +kernel
theorem dX11_lag_43 : decode cX11_lag 43 = .ok (.iload_n 1, 1) := by decide +kernel
theorem dX11_lag_44 : decode cX11_lag 44 = .ok (.iload_n 3, 1) := by decide +kernel
theorem dX11_lag_45 : decode cX11_lag 45 = .ok (.invokevirtual 387, 3) := by decide +kernel
theorem dX11_lag_48 : decode cX11_lag 48 = .ok (.aload_n 0, 1) := by decide +kernel
theorem dX11_lag_49 : decode cX11_lag 49 = .ok (.iload_n 1, 1) := by decide +kernel
theorem dX11_lag_50 : decode cX11_lag 50 = .ok (.iload_n 2, 1) := by decide +kernel
theorem dX11_lag_51 : decode cX11_lag 51 = .ok (.invokevirtual 387, 3) := by decide +kernel
theorem dX11_lag_54 : decode cX11_lag 54 = .ok (.if_icmp .le 5, 3) := by decide +kernel
theorem dX11_lag_57 : decode cX11_lag 57 = .ok (.iload_n 3, 1) := by decide +kernel
theorem dX11_lag_58 : decode cX11_lag 58 = .ok (.istore_n 2, 1) := by decide +kernel
theorem dX11_lag_59 : decode cX11_lag 59 = .ok (.iinc 3 1, 3) := by decide +kernel
theorem dX11_lag_62 : decode cX11_lag 62 = .ok (.goto (-44), 3) := by decide +kernel
theorem dX11_lag_65 : decode cX11_lag 65 = .ok (.aload_n 0, 1) := by decide +kernel
theorem dX11_lag_66 : decode cX11_lag 66 = .ok (.iload_n 2, 1) := by decide +kernel
theorem dX11_lag_67 : decode cX11_lag 67 = .ok (.invokevirtual 79, 3) := by decide +kernel
theorem dX11_lag_70 : decode cX11_lag 70 = .ok (.ireturn, 1) := by decide +kernel
abbrev rmX11_lag : Room := { frames := 3, cells := 0, slots := 0, locals := 67 }
set_option maxHeartbeats 4000000 in
set_option maxRecDepth 100000 in
theorem kX11_lag (l : Launch) (D : va_G) (cy : Nat → ClassId) (h0 : Nat) (a0 : Nat → Nat) (s0 : Rc) (p1 : Int32) (res : Int32 × Rc) (h : fX11_lag p1 s0 = some res) : CI l D cy yX11_lag wsX11_lag rmX11_lag [.ref h0, .int p1] (flat [WX11 cy h0 a0 s0]) (flat [WX11 cy h0 a0 res.2]) res.1 := by
  refine CI.of (cc := cX11_lag) (maxL := 4) (by decide) rfl (Nat.le_of_ble_eq_true rfl) ?_
  intro p e s m args below meth c A QQ ls E hr
  obtain ⟨hx, hb, hml, hown, hts, hK, hN, hP, hD, hA, hl⟩ := E
  have hret : ∀ (pc : Nat) (H : Heap) (locs : List Loc) (ls : Array Slot) (u : Int32 × Rc), u = res → va_P D vwCl (flat [WX11 cy h0 a0 u.2]) H → va_D A (flat [WX11 cy h0 a0 u.2]) → va_S A s.heap H locs → decode cX11_lag pc = .ok (.ireturn, 1) → W p l e rmX11_lag s m args below meth c H locs 0 0 QQ (F0 m pc ls [.int u.1]) := by
    intro pc H locs ls u hu hP hD hS hd; subst hu; exact hr pc H locs ls _ rfl hP hD hS hd
  clear hr
  have hl : lv_has ls 4 [(0, .ref h0), (1, .int p1)] := hl
  unfold fX11_lag at h
  suffices key : ∀ (H : Heap) (locs : List Loc), va_P D vwCl (flat [WX11 cy h0 a0 s0]) H → va_S A s.heap H locs → W p l e rmX11_lag s m args below meth c H locs 0 0 QQ (F0 m 0 ls []) from key _ _ hP va_S.rf
  clear hP
  intro H locs hP hS
  refine lv_aload_n hx hb dX11_lag_0 rfl (lv_at hl 0 rfl) ?_
  refine lv_iload_n hx hb dX11_lag_1 rfl (lv_at hl 1 rfl) ?_
  refine ca_z (w' := [WX11 cy h0 a0 s0]) (rn_V (As := [.int p1]) (rest := []) ⟨hx, hb, hml, hown, hts⟩ (kX11_isFarmer l D cy h0 a0 s0 p1 _ rfl H.size) (cwV 1 hts gX11_lag_X11_isFarmer rfl rfl rfl (by decide +kernel) ⟨Nat.le_of_ble_eq_true rfl, Nat.le_of_ble_eq_true rfl⟩) hK hN hP hD [0] rfl rfl (ci := 11) (q0 := 0) rfl rfl rfl rfl hl.1 rfl (Nat.le_of_ble_eq_true rfl) dX11_lag_2 ⟨Nat.le_refl 0, Nat.le_refl 0⟩) hP hD hS hA [0] ⟨rfl, rfl, rfl, rfl⟩ (fun b1 H locs hP hD hS => ?_)
  refine lv_if_ne (tgt := 14) hx hb dX11_lag_5 (by decide) (fun c2 => ?_) (fun c2 => ?_)
  · replace h := (if_neg c2).symm.trans h
    refine lv_iconst (v := 0) hx hb dX11_lag_14 (by decide) ?_
    refine lv_istore_n (lv' := [(2, .int (0 : Int32)), (0, .ref h0), (1, .int p1)]) hx hb dX11_lag_15 rfl hl (by decide) rfl (fun ls hl => ?_)
    refine lv_iconst (v := 1) hx hb dX11_lag_16 (by decide) ?_
    refine lv_istore_n (lv' := [(3, .int (1 : Int32)), (2, .int (0 : Int32)), (0, .ref h0), (1, .int p1)]) hx hb dX11_lag_17 rfl hl (by decide) rfl (fun ls hl => ?_)
    have L18 : ∀ (n : Nat) (q18 : Int32 × Int32) (o : Int32), loopO (fX11_lag_L18 p1 s0) n q18 = some o → ∀ (H : Heap) (locs : List Loc) (ls : Array Slot), lv_has ls 4 [(0, .ref h0), (1, .int p1), (2, .int q18.1), (3, .int q18.2)] → va_P D vwCl (flat [WX11 cy h0 a0 s0]) H → va_D A (flat [WX11 cy h0 a0 s0]) → va_S A s.heap H locs → ∀ (kk65 : ∀ (H : Heap) (locs : List Loc) (ls : Array Slot), lv_has ls 4 [(0, .ref h0), (2, .int o)] → va_P D vwCl (flat [WX11 cy h0 a0 s0]) H → va_D A (flat [WX11 cy h0 a0 s0]) → va_S A s.heap H locs → W p l e rmX11_lag s m args below meth c H locs 0 0 QQ (F0 m 65 ls [])), W p l e rmX11_lag s m args below meth c H locs 0 0 QQ (F0 m 18 ls []) := by
      intro n
      induction n with
      | zero => intro q18 o h; exact absurd h (by rw [loopO_zero]; intro z; cases z)
      | succ n ih =>
        intro q18 o h H locs ls hl hP hD hS kk65
        obtain ⟨w, h, hgo, hst⟩ := loopO_elim h
        unfold fX11_lag_L18 at h
        have J42 : ∀ (y42_2 : Int32) (H : Heap) (locs : List Loc) (ls : Array Slot), lv_has ls 4 [(0, .ref h0), (1, .int p1), (3, .int q18.2), (2, .int y42_2)] → va_P D vwCl (flat [WX11 cy h0 a0 s0]) H → va_D A (flat [WX11 cy h0 a0 s0]) → va_S A s.heap H locs → fX11_lag_J42 p1 s0 q18 y42_2 = some w → W p l e rmX11_lag s m args below meth c H locs 0 0 QQ (F0 m 42 ls []) := by
          intro y42_2 H locs ls hl hP hD hS h
          unfold fX11_lag_J42 at h
          refine lv_aload_n hx hb dX11_lag_42 rfl (lv_at hl 0 rfl) ?_
          refine lv_iload_n hx hb dX11_lag_43 rfl (lv_at hl 1 rfl) ?_
          refine lv_iload_n hx hb dX11_lag_44 rfl (lv_at hl 2 rfl) ?_
          obtain ⟨r3, hr3, h⟩ := bd_elim h
          refine ca_i (w' := [WX11 cy h0 a0 s0]) (rn_V (As := [.int p1, .int q18.2]) (rest := []) ⟨hx, hb, hml, hown, hts⟩ (kX11_fitsOf l D cy h0 a0 s0 p1 q18.2 r3 hr3 H.size) (cwV 2 hts gX11_lag_X11_fitsOf rfl rfl rfl (by decide +kernel) ⟨Nat.le_of_ble_eq_true rfl, Nat.le_of_ble_eq_true rfl⟩) hK hN hP hD [0] rfl rfl (ci := 11) (q0 := 0) rfl rfl rfl rfl hl.1 rfl (Nat.le_of_ble_eq_true rfl) dX11_lag_45 ⟨Nat.le_refl 0, Nat.le_refl 0⟩) hP hD hS hA [0] ⟨rfl, rfl, rfl, rfl⟩ (fun H locs hP hD hS => ?_)
          refine lv_aload_n hx hb dX11_lag_48 rfl (lv_at hl 0 rfl) ?_
          refine lv_iload_n hx hb dX11_lag_49 rfl (lv_at hl 1 rfl) ?_
          refine lv_iload_n hx hb dX11_lag_50 rfl (lv_at hl 3 rfl) ?_
          obtain ⟨r4, hr4, h⟩ := bd_elim h
          refine ca_i (w' := [WX11 cy h0 a0 s0]) (rn_V (As := [.int p1, .int y42_2]) (rest := [.int r3]) ⟨hx, hb, hml, hown, hts⟩ (kX11_fitsOf l D cy h0 a0 s0 p1 y42_2 r4 hr4 H.size) (cwV 2 hts gX11_lag_X11_fitsOf rfl rfl rfl (by decide +kernel) ⟨Nat.le_of_ble_eq_true rfl, Nat.le_of_ble_eq_true rfl⟩) hK hN hP hD [0] rfl rfl (ci := 11) (q0 := 0) rfl rfl rfl rfl hl.1 rfl (Nat.le_of_ble_eq_true rfl) dX11_lag_51 ⟨Nat.le_refl 0, Nat.le_refl 0⟩) hP hD hS hA [0] ⟨rfl, rfl, rfl, rfl⟩ (fun H locs hP hD hS => ?_)
          refine lv_icmp_le (tgt := 59) hx hb dX11_lag_54 (by decide) (fun c5 => ?_) (fun c5 => ?_)
          · replace h := (if_pos c5).symm.trans h
            refine lv_iinc (v := (q18.2 + (1 : Int32))) (lv' := [(3, .int (q18.2 + (1 : Int32))), (0, .ref h0), (1, .int p1), (2, .int y42_2)]) hx hb dX11_lag_59 hl (k := 2) rfl rfl (by decide) rfl (fun ls hl => ?_)
            refine lv_goto (tgt := 18) hx hb dX11_lag_62 (by decide) ?_
            exact ih _ o (hgo _ (Option.some.inj h).symm) H locs ls (lv_sub hl [1, 2, 3, 0] rfl) hP hD hS kk65
          · replace h := (if_neg c5).symm.trans h
            refine lv_iload_n hx hb dX11_lag_57 rfl (lv_at hl 2 rfl) ?_
            refine lv_istore_n (lv' := [(2, .int q18.2), (0, .ref h0), (1, .int p1), (3, .int q18.2)]) hx hb dX11_lag_58 rfl hl (by decide) rfl (fun ls hl => ?_)
            refine lv_iinc (v := (q18.2 + (1 : Int32))) (lv' := [(3, .int (q18.2 + (1 : Int32))), (2, .int q18.2), (0, .ref h0), (1, .int p1)]) hx hb dX11_lag_59 hl (k := 3) rfl rfl (by decide) rfl (fun ls hl => ?_)
            refine lv_goto (tgt := 18) hx hb dX11_lag_62 (by decide) ?_
            exact ih _ o (hgo _ (Option.some.inj h).symm) H locs ls (lv_sub hl [2, 3, 1, 0] rfl) hP hD hS kk65
        refine lv_iload_n hx hb dX11_lag_18 rfl (lv_at hl 3 rfl) ?_
        refine lv_iconst (v := 3) hx hb dX11_lag_19 (by decide) ?_
        refine lv_icmp_gt (tgt := 65) hx hb dX11_lag_20 (by decide) (fun c6 => ?_) (fun c6 => ?_)
        · replace h := (if_pos c6).symm.trans h
          have eo := hst _ (Option.some.inj h).symm
          subst eo
          exact kk65 H locs ls (lv_sub hl [0, 2] rfl) hP hD hS
        · replace h := (if_neg c6).symm.trans h
          refine lv_aload_n hx hb dX11_lag_23 rfl (lv_at hl 0 rfl) ?_
          refine lv_iload_n hx hb dX11_lag_24 rfl (lv_at hl 1 rfl) ?_
          refine lv_iload_n hx hb dX11_lag_25 rfl (lv_at hl 3 rfl) ?_
          refine lv_ineg hx hb dX11_lag_26 ?_
          obtain ⟨r7, hr7, h⟩ := bd_elim h
          refine ca_i (w' := [WX11 cy h0 a0 s0]) (rn_V (As := [.int p1, .int (-q18.2)]) (rest := []) ⟨hx, hb, hml, hown, hts⟩ (kX11_fitsOf l D cy h0 a0 s0 p1 (-q18.2) r7 hr7 H.size) (cwV 2 hts gX11_lag_X11_fitsOf rfl rfl rfl (by decide +kernel) ⟨Nat.le_of_ble_eq_true rfl, Nat.le_of_ble_eq_true rfl⟩) hK hN hP hD [0] rfl rfl (ci := 11) (q0 := 0) rfl rfl rfl rfl hl.1 rfl (Nat.le_of_ble_eq_true rfl) dX11_lag_27 ⟨Nat.le_refl 0, Nat.le_refl 0⟩) hP hD hS hA [0] ⟨rfl, rfl, rfl, rfl⟩ (fun H locs hP hD hS => ?_)
          refine lv_aload_n hx hb dX11_lag_30 rfl (lv_at hl 0 rfl) ?_
          refine lv_iload_n hx hb dX11_lag_31 rfl (lv_at hl 1 rfl) ?_
          refine lv_iload_n hx hb dX11_lag_32 rfl (lv_at hl 2 rfl) ?_
          obtain ⟨r8, hr8, h⟩ := bd_elim h
          refine ca_i (w' := [WX11 cy h0 a0 s0]) (rn_V (As := [.int p1, .int q18.1]) (rest := [.int r7]) ⟨hx, hb, hml, hown, hts⟩ (kX11_fitsOf l D cy h0 a0 s0 p1 q18.1 r8 hr8 H.size) (cwV 2 hts gX11_lag_X11_fitsOf rfl rfl rfl (by decide +kernel) ⟨Nat.le_of_ble_eq_true rfl, Nat.le_of_ble_eq_true rfl⟩) hK hN hP hD [0] rfl rfl (ci := 11) (q0 := 0) rfl rfl rfl rfl hl.1 rfl (Nat.le_of_ble_eq_true rfl) dX11_lag_33 ⟨Nat.le_refl 0, Nat.le_refl 0⟩) hP hD hS hA [0] ⟨rfl, rfl, rfl, rfl⟩ (fun H locs hP hD hS => ?_)
          refine lv_icmp_le (tgt := 42) hx hb dX11_lag_36 (by decide) (fun c9 => ?_) (fun c9 => ?_)
          · replace h := (if_pos c9).symm.trans h
            exact J42 q18.1 H locs ls (lv_sub hl [0, 1, 3, 2] rfl) hP hD hS h
          · replace h := (if_neg c9).symm.trans h
            refine lv_iload_n hx hb dX11_lag_39 rfl (lv_at hl 3 rfl) ?_
            refine lv_ineg hx hb dX11_lag_40 ?_
            refine lv_topi (fun x10 ex10 => ?_)
            replace h := lt_use h x10 ex10
            refine lv_istore_n (lv' := [(2, .int x10), (0, .ref h0), (1, .int p1), (3, .int q18.2)]) hx hb dX11_lag_41 rfl hl (by decide) rfl (fun ls hl => ?_)
            exact J42 x10 H locs ls (lv_sub hl [1, 2, 3, 0] rfl) hP hD hS h
    obtain ⟨o18, ho18, h⟩ := bd_elim h
    obtain ⟨n18, hn18⟩ := loopF_some ho18
    refine L18 n18 _ o18 hn18 H locs ls (lv_sub hl [2, 3, 1, 0] rfl) hP hD hS (fun H locs ls hl hP hD hS => ?_)
    refine lv_aload_n hx hb dX11_lag_65 rfl (lv_at hl 0 rfl) ?_
    refine lv_iload_n hx hb dX11_lag_66 rfl (lv_at hl 1 rfl) ?_
    obtain ⟨r11, hr11, h⟩ := lt_elim h
    refine ca_i (w' := [WX11 cy h0 a0 r11.2]) (rn_V (As := [.int o18]) (rest := []) ⟨hx, hb, hml, hown, hts⟩ (kX11_gives l D cy h0 a0 s0 o18 r11 hr11.symm H.size) (cwV 1 hts gX11_lag_X11_gives rfl rfl rfl (by decide +kernel) ⟨Nat.le_of_ble_eq_true rfl, Nat.le_of_ble_eq_true rfl⟩) hK hN hP hD [0] rfl rfl (ci := 11) (q0 := 0) rfl rfl rfl rfl hl.1 rfl (Nat.le_of_ble_eq_true rfl) dX11_lag_67 ⟨Nat.le_refl 0, Nat.le_refl 0⟩) hP hD hS hA [0] ⟨rfl, rfl, rfl, rfl⟩ (fun H locs hP hD hS => ?_)
    exact hret 70 H locs ls (r11.1, r11.2) (Option.some.inj h) hP hD hS dX11_lag_70
  · replace h := (if_pos c2).symm.trans h
    refine lv_aload_n hx hb dX11_lag_8 rfl (lv_at hl 0 rfl) ?_
    refine lv_iconst (v := 1) hx hb dX11_lag_9 (by decide) ?_
    obtain ⟨r12, hr12, h⟩ := lt_elim h
    refine ca_i (w' := [WX11 cy h0 a0 r12.2]) (rn_V (As := [.int (1 : Int32)]) (rest := []) ⟨hx, hb, hml, hown, hts⟩ (kX11_refuse l D cy h0 a0 s0 (1 : Int32) r12 hr12.symm H.size) (cwV 1 hts gX11_lag_X11_refuse rfl rfl rfl (by decide +kernel) ⟨Nat.le_of_ble_eq_true rfl, Nat.le_of_ble_eq_true rfl⟩) hK hN hP hD [0] rfl rfl (ci := 11) (q0 := 0) rfl rfl rfl rfl hl.1 rfl (Nat.le_of_ble_eq_true rfl) dX11_lag_10 ⟨Nat.le_refl 0, Nat.le_refl 0⟩) hP hD hS hA [0] ⟨rfl, rfl, rfl, rfl⟩ (fun H locs hP hD hS => ?_)
    exact hret 13 H locs ls (r12.1, r12.2) (Option.some.inj h) hP hD hS dX11_lag_13
theorem dX11_laysCosts_0 : decode cX11_laysCosts 0 = .ok (.iconst 1, 1) := by decide +kernel
theorem dX11_laysCosts_1 : decode cX11_laysCosts 1 = .ok (.aload_n 0, 1) := by decide +kernel
theorem dX11_laysCosts_2 : decode cX11_laysCosts 2 = .ok (.getfield 7, 3) := by decide +kernel
theorem dX11_laysCosts_5 : decode cX11_laysCosts 5 = .ok (.iconst 0, 1) := by decide +kernel
theorem dX11_laysCosts_6 : decode cX11_laysCosts 6 = .ok (.iaload, 1) := by decide +kernel
theorem dX11_laysCosts_7 : decode cX11_laysCosts 7 = .ok (.ishl, 1) := by decide +kernel
theorem dX11_laysCosts_8 : decode cX11_laysCosts 8 = .ok (.iconst 1, 1) := by decide +kernel
theorem dX11_laysCosts_9 : decode cX11_laysCosts 9 = .ok (.isub, 1) := by decide +kernel
theorem dX11_laysCosts_10 : decode cX11_laysCosts 10 = .ok (.istore_n 1, 1) := by decide +kernel
theorem dX11_laysCosts_11 : decode cX11_laysCosts 11 = .ok (.iload_n 1, 1) := by decide +kernel
theorem dX11_laysCosts_12 : decode cX11_laysCosts 12 = .ok (.istore_n 2, 1) := by decide +kernel
theorem dX11_laysCosts_13 : decode cX11_laysCosts 13 = .ok (.iload_n 2, 1) := by decide +kernel
theorem dX11_laysCosts_14 : decode cX11_laysCosts 14 = .ok (.ifCond .le 122, 3) := by decide +kernel
theorem dX11_laysCosts_17 : decode cX11_laysCosts 17 = .ok (.iconst 0, 1) := by decide +kernel
theorem dX11_laysCosts_18 : decode cX11_laysCosts 18 = .ok (.istore_n 3, 1) := by decide +kernel
theorem dX11_laysCosts_19 : decode cX11_laysCosts 19 = .ok (.iload_n 3, 1) := by decide +kernel
theorem dX11_laysCosts_20 : decode cX11_laysCosts 20 = .ok (.aload_n 0, 1) := by decide +kernel
theorem dX11_laysCosts_21 : decode cX11_laysCosts 21 = .ok (.getfield 7, 3) := by decide +kernel
theorem dX11_laysCosts_24 : decode cX11_laysCosts 24 = .ok (.iconst 0, 1) := by decide +kernel
theorem dX11_laysCosts_25 : decode cX11_laysCosts 25 = .ok (.iaload, 1) := by decide +kernel
theorem dX11_laysCosts_26 : decode cX11_laysCosts 26 = .ok (.if_icmp .ge 104, 3) := by decide +kernel
theorem dX11_laysCosts_29 : decode cX11_laysCosts 29 = .ok (.iload_n 2, 1) := by decide +kernel
theorem dX11_laysCosts_30 : decode cX11_laysCosts 30 = .ok (.iload_n 1, 1) := by decide +kernel
theorem dX11_laysCosts_31 : decode cX11_laysCosts 31 = .ok (.if_icmp .ne 7, 3) := by decide +kernel
theorem dX11_laysCosts_34 : decode cX11_laysCosts 34 = .ok (.iconst 0, 1) := by decide +kernel
theorem dX11_laysCosts_35 : decode cX11_laysCosts 35 = .ok (.goto 5, 3) := by decide +kernel
theorem dX11_laysCosts_38 : decode cX11_laysCosts 38 = .ok (.ldc 191, 2) := by decide +kernel
theorem dX11_laysCosts_40 : decode cX11_laysCosts 40 = .ok (.istore 4, 2) := by decide +kernel
theorem dX11_laysCosts_42 : decode cX11_laysCosts 42 = .ok (.iconst 0, 1) := by decide +kernel
theorem dX11_laysCosts_43 : decode cX11_laysCosts 43 = .ok (.istore 5, 2) := by decide +kernel
theorem dX11_laysCosts_45 : decode cX11_laysCosts 45 = .ok (.iload 5, 2) := by decide +kernel
theorem dX11_laysCosts_47 : decode cX11_laysCosts 47 = .ok (.aload_n 0, 1) := by decide +kernel
theorem dX11_laysCosts_48 : decode cX11_laysCosts 48 = .ok (.getfield 7, 3) := by decide +kernel
theorem dX11_laysCosts_51 : decode cX11_laysCosts 51 = .ok (.iconst 0, 1) := by decide +kernel
theorem dX11_laysCosts_52 : decode cX11_laysCosts 52 = .ok (.iaload, 1) := by decide +kernel
theorem dX11_laysCosts_53 : decode cX11_laysCosts 53 = .ok (.if_icmp .ge 58, 3) := by decide +kernel
theorem dX11_laysCosts_56 : decode cX11_laysCosts 56 = .ok (.iload_n 2, 1) := by decide +kernel
theorem dX11_laysCosts_57 : decode cX11_laysCosts 57 = .ok (.iload 5, 2) := by decide +kernel
theorem dX11_laysCosts_59 : decode cX11_laysCosts 59 = .ok (.ishr, 1) := by decide +kernel
theorem dX11_laysCosts_60 : decode cX11_laysCosts 60 = .ok (.iconst 1, 1) := by decide +kernel
theorem dX11_laysCosts_61 : decode cX11_laysCosts 61 = .ok (.iand, 1) := by decide +kernel
theorem dX11_laysCosts_62 : decode cX11_laysCosts 62 = .ok (.ifCond .ne 43, 3) := by decide +kernel
theorem dX11_laysCosts_65 : decode cX11_laysCosts 65 = .ok (.iload 4, 2) := by decide +kernel
theorem dX11_laysCosts_67 : decode cX11_laysCosts 67 = .ok (.aload_n 0, 1) := by decide +kernel
theorem dX11_laysCosts_68 : decode cX11_laysCosts 68 = .ok (.getfield 7, 3) := by decide +kernel
theorem dX11_laysCosts_71 : decode cX11_laysCosts 71 = .ok (.bipush 58, 2) := by decide +kernel
theorem dX11_laysCosts_73 : decode cX11_laysCosts 73 = .ok (.bipush 8, 2) := by decide +kernel
theorem dX11_laysCosts_75 : decode cX11_laysCosts 75 = .ok (.iload_n 3, 1) := by decide +kernel
theorem dX11_laysCosts_76 : decode cX11_laysCosts 76 = .ok (.imul, 1) := by decide +kernel
theorem dX11_laysCosts_77 : decode cX11_laysCosts 77 = .ok (.iadd, 1) := by decide +kernel
theorem dX11_laysCosts_78 : decode cX11_laysCosts 78 = .ok (.iload 5, 2) := by decide +kernel
theorem dX11_laysCosts_80 : decode cX11_laysCosts 80 = .ok (.iadd, 1) := by decide +kernel
theorem dX11_laysCosts_81 : decode cX11_laysCosts 81 = .ok (.iaload, 1) := by decide +kernel
theorem dX11_laysCosts_82 : decode cX11_laysCosts 82 = .ok (.aload_n 0, 1) := by decide +kernel
theorem dX11_laysCosts_83 : decode cX11_laysCosts 83 = .ok (.getfield 50, 3) := by decide +kernel
theorem dX11_laysCosts_86 : decode cX11_laysCosts 86 = .ok (.bipush 8, 2) := by decide +kernel
theorem dX11_laysCosts_88 : decode cX11_laysCosts 88 = .ok (.iload_n 2, 1) := by decide +kernel
theorem dX11_laysCosts_89 : decode cX11_laysCosts 89 = .ok (.iconst 1, 1) := by decide +kernel
theorem dX11_laysCosts_90 : decode cX11_laysCosts 90 = .ok (.iload 5, 2) := by decide +kernel
theorem dX11_laysCosts_92 : decode cX11_laysCosts 92 = .ok (.ishl, 1) := by decide +kernel
theorem dX11_laysCosts_93 : decode cX11_laysCosts 93 = .ok (.ior, 1) := by decide +kernel
theorem dX11_laysCosts_94 : decode cX11_laysCosts 94 = .ok (.imul, 1) := by decide +kernel
theorem dX11_laysCosts_95 : decode cX11_laysCosts 95 = .ok (.iload 5, 2) := by decide +kernel
theorem dX11_laysCosts_97 : decode cX11_laysCosts 97 = .ok (.iadd, 1) := by decide +kernel
theorem dX11_laysCosts_98 : decode cX11_laysCosts 98 = .ok (.iaload, 1) := by decide +kernel
theorem dX11_laysCosts_99 : decode cX11_laysCosts 99 = .ok (.iadd, 1) := by decide +kernel
theorem dX11_laysCosts_100 : decode cX11_laysCosts 100 = .ok (.invokestatic 130, 3) := by decide +kernel
theorem dX11_laysCosts_103 : decode cX11_laysCosts 103 = .ok (.istore 4, 2) := by decide +kernel
theorem dX11_laysCosts_105 : decode cX11_laysCosts 105 = .ok (.iinc 5 1, 3) := by decide +kernel
theorem dX11_laysCosts_108 : decode cX11_laysCosts 108 = .ok (.goto (-63), 3) := by decide +kernel
theorem dX11_laysCosts_111 : decode cX11_laysCosts 111 = .ok (.aload_n 0, 1) := by decide +kernel
theorem dX11_laysCosts_112 : decode cX11_laysCosts 112 = .ok (.getfield 50, 3) := by decide +kernel
theorem dX11_laysCosts_115 : decode cX11_laysCosts 115 = .ok (.bipush 8, 2) := by decide +kernel
theorem dX11_laysCosts_117 : decode cX11_laysCosts 117 = .ok (.iload_n 2, 1) := by decide +kernel
theorem dX11_laysCosts_118 : decode cX11_laysCosts 118 = .ok (.imul, 1) := by decide +kernel
theorem dX11_laysCosts_119 : decode cX11_laysCosts 119 = .ok (.iload_n 3, 1) := by decide +kernel
theorem dX11_laysCosts_120 : decode cX11_laysCosts 120 = .ok (.iadd, 1) := by decide +kernel
theorem dX11_laysCosts_121 : decode cX11_laysCosts 121 = .ok (.iload 4, 2) := by decide +kernel
theorem dX11_laysCosts_123 : decode cX11_laysCosts 123 = .ok (.iastore, 1) := by decide +kernel
theorem dX11_laysCosts_124 : decode cX11_laysCosts 124 = .ok (.iinc 3 1, 3) := by decide +kernel
theorem dX11_laysCosts_127 : decode cX11_laysCosts 127 = .ok (.goto (-108), 3) := by decide +kernel
theorem dX11_laysCosts_130 : decode cX11_laysCosts 130 = .ok (.iinc 2 (-1), 3) := by decide +kernel
theorem dX11_laysCosts_133 : decode cX11_laysCosts 133 = .ok (.goto (-120), 3) := by decide +kernel
theorem dX11_laysCosts_136 : decode cX11_laysCosts 136 = .ok (.return_, 1) := by decide +kernel
abbrev rmX11_laysCosts : Room := { frames := 1, cells := 0, slots := 0, locals := 13 }
set_option maxHeartbeats 4000000 in
set_option maxRecDepth 100000 in
theorem kX11_laysCosts (l : Launch) (D : va_G) (cy : Nat → ClassId) (h0 : Nat) (a0 : Nat → Nat) (s0 : Rc) (res : Rc) (h : fX11_laysCosts s0 = some res) : CV l D cy yX11_laysCosts wsX11_laysCosts rmX11_laysCosts [.ref h0] (flat [WX11 cy h0 a0 s0]) (flat [WX11 cy h0 a0 res]) := by
  refine CV.of (cc := cX11_laysCosts) (maxL := 6) (by decide) rfl (Nat.le_of_ble_eq_true rfl) ?_
  intro p e s m args below meth c A QQ ls E hr
  obtain ⟨hx, hb, hml, hown, hts, hK, hN, hP, hD, hA, hl⟩ := E
  have hret : ∀ (pc : Nat) (H : Heap) (locs : List Loc) (ls : Array Slot) (u : Rc), u = res → va_P D vwCl (flat [WX11 cy h0 a0 u]) H → va_D A (flat [WX11 cy h0 a0 u]) → va_S A s.heap H locs → decode cX11_laysCosts pc = .ok (.return_, 1) → W p l e rmX11_laysCosts s m args below meth c H locs 0 0 QQ (F0 m pc ls []) := by
    intro pc H locs ls u hu hP hD hS hd; subst hu; exact hr pc H locs ls hP hD hS hd
  clear hr
  have hl : lv_has ls 6 [(0, .ref h0)] := hl
  have hinX11 : ∀ w ∈ wsX110, w ∈ wsX11_laysCosts := fun _ h => List.mem_cons_of_mem _ (List.mem_append_right _ h)
  unfold fX11_laysCosts at h
  suffices key : ∀ (H : Heap) (locs : List Loc), va_P D vwCl (flat [WX11 cy h0 a0 s0]) H → va_S A s.heap H locs → W p l e rmX11_laysCosts s m args below meth c H locs 0 0 QQ (F0 m 0 ls []) from key _ _ hP va_S.rf
  clear hP
  intro H locs hP hS
  refine lv_iconst (v := 1) hx hb dX11_laysCosts_0 (by decide) ?_
  refine lv_aload_n hx hb dX11_laysCosts_1 rfl (lv_at hl 0 rfl) ?_
  refine va_get (D := D) (ci := 11) (v := .ref (a0 0)) (C := RX11) (T := TX11) (N := 38) hx hb hts hinX11 hown hK hP 0 rfl rfl 0 (by decide) (hts (.fieldLink RX11 7 "KneeBenchModel" "at" "[I") (List.mem_of_getElem? (i := 1) rfl)) (fun _ h9 => h9) rfl dX11_laysCosts_2 ?_
  refine lv_iconst (v := 0) hx hb dX11_laysCosts_5 (by decide) ?_
  refine va_iald hx hb hK hP 1 1 rfl rfl (inb_in (by decide)) dX11_laysCosts_6 ?_
  refine lv_ishl hx hb dX11_laysCosts_7 ?_
  refine lv_iconst (v := 1) hx hb dX11_laysCosts_8 (by decide) ?_
  refine lv_isub hx hb dX11_laysCosts_9 ?_
  refine lv_topi (fun x1 ex1 => ?_)
  replace h := lt_use h x1 ex1
  refine lv_istore_n (lv' := [(1, .int x1), (0, .ref h0)]) hx hb dX11_laysCosts_10 rfl hl (by decide) rfl (fun ls hl => ?_)
  refine lv_iload_n hx hb dX11_laysCosts_11 rfl (lv_at hl 0 rfl) ?_
  refine lv_istore_n (lv' := [(2, .int x1), (1, .int x1), (0, .ref h0)]) hx hb dX11_laysCosts_12 rfl hl (by decide) rfl (fun ls hl => ?_)
  have L13 : ∀ (n : Nat) (q13 : Int32 × Rc) (o : Rc), loopO (fX11_laysCosts_L13 x1) n q13 = some o → ∀ (H : Heap) (locs : List Loc) (ls : Array Slot), lv_has ls 6 [(1, .int x1), (0, .ref h0), (2, .int q13.1)] → va_P D vwCl (flat [WX11 cy h0 a0 q13.2]) H → va_D A (flat [WX11 cy h0 a0 q13.2]) → va_S A s.heap H locs → ∀ (kk136 : ∀ (H : Heap) (locs : List Loc) (ls : Array Slot), lv_has ls 6 [] → va_P D vwCl (flat [WX11 cy h0 a0 o]) H → va_D A (flat [WX11 cy h0 a0 o]) → va_S A s.heap H locs → W p l e rmX11_laysCosts s m args below meth c H locs 0 0 QQ (F0 m 136 ls [])), W p l e rmX11_laysCosts s m args below meth c H locs 0 0 QQ (F0 m 13 ls []) := by
    intro n
    induction n with
    | zero => intro q13 o h; exact absurd h (by rw [loopO_zero]; intro z; cases z)
    | succ n ih =>
      intro q13 o h H locs ls hl hP hD hS kk136
      obtain ⟨w, h, hgo, hst⟩ := loopO_elim h
      unfold fX11_laysCosts_L13 at h
      refine lv_iload_n hx hb dX11_laysCosts_13 rfl (lv_at hl 2 rfl) ?_
      refine lv_if_le (tgt := 136) hx hb dX11_laysCosts_14 (by decide) (fun c2 => ?_) (fun c2 => ?_)
      · replace h := (if_pos c2).symm.trans h
        have eo := hst _ (Option.some.inj h).symm
        subst eo
        exact kk136 H locs ls (lv_sub hl [] rfl) hP hD hS
      · replace h := (if_neg c2).symm.trans h
        refine lv_iconst (v := 0) hx hb dX11_laysCosts_17 (by decide) ?_
        refine lv_istore_n (lv' := [(3, .int (0 : Int32)), (1, .int x1), (0, .ref h0), (2, .int q13.1)]) hx hb dX11_laysCosts_18 rfl hl (by decide) rfl (fun ls hl => ?_)
        have L19 : ∀ (n : Nat) (q19 : Int32 × Rc) (o : Rc), loopO (fX11_laysCosts_L19 x1 q13) n q19 = some o → ∀ (H : Heap) (locs : List Loc) (ls : Array Slot), lv_has ls 6 [(1, .int x1), (0, .ref h0), (2, .int q13.1), (3, .int q19.1)] → va_P D vwCl (flat [WX11 cy h0 a0 q19.2]) H → va_D A (flat [WX11 cy h0 a0 q19.2]) → va_S A s.heap H locs → ∀ (kk130 : ∀ (H : Heap) (locs : List Loc) (ls : Array Slot), lv_has ls 6 [(1, .int x1), (0, .ref h0), (2, .int q13.1)] → va_P D vwCl (flat [WX11 cy h0 a0 o]) H → va_D A (flat [WX11 cy h0 a0 o]) → va_S A s.heap H locs → W p l e rmX11_laysCosts s m args below meth c H locs 0 0 QQ (F0 m 130 ls [])), W p l e rmX11_laysCosts s m args below meth c H locs 0 0 QQ (F0 m 19 ls []) := by
          intro n
          induction n with
          | zero => intro q19 o h; exact absurd h (by rw [loopO_zero]; intro z; cases z)
          | succ n ih =>
            intro q19 o h H locs ls hl hP hD hS kk130
            obtain ⟨w, h, hgo, hst⟩ := loopO_elim h
            unfold fX11_laysCosts_L19 at h
            have J40 : ∀ (z40_0 : Int32) (H : Heap) (locs : List Loc) (ls : Array Slot), lv_has ls 6 [(1, .int x1), (0, .ref h0), (2, .int q13.1), (3, .int q19.1)] → va_P D vwCl (flat [WX11 cy h0 a0 q19.2]) H → va_D A (flat [WX11 cy h0 a0 q19.2]) → va_S A s.heap H locs → fX11_laysCosts_J40 q13 q19 z40_0 = some w → W p l e rmX11_laysCosts s m args below meth c H locs 0 0 QQ (F0 m 40 ls [.int z40_0]) := by
              intro z40_0 H locs ls hl hP hD hS h
              unfold fX11_laysCosts_J40 at h
              refine lv_istore (lv' := [(4, .int z40_0), (1, .int x1), (0, .ref h0), (2, .int q13.1), (3, .int q19.1)]) hx hb dX11_laysCosts_40 hl (by decide) rfl (fun ls hl => ?_)
              refine lv_iconst (v := 0) hx hb dX11_laysCosts_42 (by decide) ?_
              refine lv_istore (lv' := [(5, .int (0 : Int32)), (4, .int z40_0), (1, .int x1), (0, .ref h0), (2, .int q13.1), (3, .int q19.1)]) hx hb dX11_laysCosts_43 hl (by decide) rfl (fun ls hl => ?_)
              have L45 : ∀ (n : Nat) (q45 : Int32 × Int32) (o : Int32), loopO (fX11_laysCosts_L45 q13 q19) n q45 = some o → ∀ (H : Heap) (locs : List Loc) (ls : Array Slot), lv_has ls 6 [(1, .int x1), (0, .ref h0), (2, .int q13.1), (3, .int q19.1), (4, .int q45.1), (5, .int q45.2)] → va_P D vwCl (flat [WX11 cy h0 a0 q19.2]) H → va_D A (flat [WX11 cy h0 a0 q19.2]) → va_S A s.heap H locs → ∀ (kk111 : ∀ (H : Heap) (locs : List Loc) (ls : Array Slot), lv_has ls 6 [(1, .int x1), (0, .ref h0), (2, .int q13.1), (3, .int q19.1), (4, .int o)] → va_P D vwCl (flat [WX11 cy h0 a0 q19.2]) H → va_D A (flat [WX11 cy h0 a0 q19.2]) → va_S A s.heap H locs → W p l e rmX11_laysCosts s m args below meth c H locs 0 0 QQ (F0 m 111 ls [])), W p l e rmX11_laysCosts s m args below meth c H locs 0 0 QQ (F0 m 45 ls []) := by
                intro n
                induction n with
                | zero => intro q45 o h; exact absurd h (by rw [loopO_zero]; intro z; cases z)
                | succ n ih =>
                  intro q45 o h H locs ls hl hP hD hS kk111
                  obtain ⟨w, h, hgo, hst⟩ := loopO_elim h
                  unfold fX11_laysCosts_L45 at h
                  refine lv_iload hx hb dX11_laysCosts_45 (lv_at hl 5 rfl) ?_
                  refine lv_aload_n hx hb dX11_laysCosts_47 rfl (lv_at hl 1 rfl) ?_
                  refine va_get (D := D) (ci := 11) (v := .ref (a0 0)) (C := RX11) (T := TX11) (N := 38) hx hb hts hinX11 hown hK hP 0 rfl rfl 0 (by decide) (hts (.fieldLink RX11 7 "KneeBenchModel" "at" "[I") (List.mem_of_getElem? (i := 1) rfl)) (fun _ h9 => h9) rfl dX11_laysCosts_48 ?_
                  refine lv_iconst (v := 0) hx hb dX11_laysCosts_51 (by decide) ?_
                  refine va_iald hx hb hK hP 1 1 rfl rfl (inb_in (by decide)) dX11_laysCosts_52 ?_
                  refine lv_icmp_ge (tgt := 111) hx hb dX11_laysCosts_53 (by decide) (fun c3 => ?_) (fun c3 => ?_)
                  · replace h := (if_pos c3).symm.trans h
                    have eo := hst _ (Option.some.inj h).symm
                    subst eo
                    exact kk111 H locs ls (lv_sub hl [0, 1, 2, 3, 4] rfl) hP hD hS
                  · replace h := (if_neg c3).symm.trans h
                    refine lv_iload_n hx hb dX11_laysCosts_56 rfl (lv_at hl 2 rfl) ?_
                    refine lv_iload hx hb dX11_laysCosts_57 (lv_at hl 5 rfl) ?_
                    refine lv_ishr hx hb dX11_laysCosts_59 ?_
                    refine lv_iconst (v := 1) hx hb dX11_laysCosts_60 (by decide) ?_
                    refine lv_iand hx hb dX11_laysCosts_61 ?_
                    refine lv_if_ne (tgt := 105) hx hb dX11_laysCosts_62 (by decide) (fun c4 => ?_) (fun c4 => ?_)
                    · replace h := (if_neg c4).symm.trans h
                      refine lv_iinc (v := (q45.2 + (1 : Int32))) (lv' := [(5, .int (q45.2 + (1 : Int32))), (1, .int x1), (0, .ref h0), (2, .int q13.1), (3, .int q19.1), (4, .int q45.1)]) hx hb dX11_laysCosts_105 hl (k := 5) rfl rfl (by decide) rfl (fun ls hl => ?_)
                      refine lv_goto (tgt := 45) hx hb dX11_laysCosts_108 (by decide) ?_
                      exact ih _ o (hgo _ (Option.some.inj h).symm) H locs ls (lv_sub hl [1, 2, 3, 4, 5, 0] rfl) hP hD hS kk111
                    · replace h := (if_pos c4).symm.trans h
                      refine lv_iload hx hb dX11_laysCosts_65 (lv_at hl 4 rfl) ?_
                      refine lv_aload_n hx hb dX11_laysCosts_67 rfl (lv_at hl 1 rfl) ?_
                      refine va_get (D := D) (ci := 11) (v := .ref (a0 0)) (C := RX11) (T := TX11) (N := 38) hx hb hts hinX11 hown hK hP 0 rfl rfl 0 (by decide) (hts (.fieldLink RX11 7 "KneeBenchModel" "at" "[I") (List.mem_of_getElem? (i := 1) rfl)) (fun _ h9 => h9) rfl dX11_laysCosts_68 ?_
                      refine lv_bipush (v := 58) hx hb dX11_laysCosts_71 (by decide) ?_
                      refine lv_bipush (v := 8) hx hb dX11_laysCosts_73 (by decide) ?_
                      refine lv_iload_n hx hb dX11_laysCosts_75 rfl (lv_at hl 3 rfl) ?_
                      refine lv_imul hx hb dX11_laysCosts_76 ?_
                      refine lv_iadd hx hb dX11_laysCosts_77 ?_
                      refine lv_iload hx hb dX11_laysCosts_78 (lv_at hl 5 rfl) ?_
                      refine lv_iadd hx hb dX11_laysCosts_80 ?_
                      obtain ⟨g5, h⟩ := gd_elim h
                      refine va_iald hx hb hK hP 1 1 rfl rfl (inb_in g5) dX11_laysCosts_81 ?_
                      refine lv_aload_n hx hb dX11_laysCosts_82 rfl (lv_at hl 1 rfl) ?_
                      refine va_get (D := D) (ci := 11) (v := .ref (a0 29)) (C := RX11) (T := TX11) (N := 38) hx hb hts hinX11 hown hK hP 0 rfl rfl 29 (by decide) (hts (.fieldLink RX11 50 "KneeBenchModel" "costs" "[I") (List.mem_of_getElem? (i := 3) rfl)) (fun _ h9 => h9) rfl dX11_laysCosts_83 ?_
                      refine lv_bipush (v := 8) hx hb dX11_laysCosts_86 (by decide) ?_
                      refine lv_iload_n hx hb dX11_laysCosts_88 rfl (lv_at hl 2 rfl) ?_
                      refine lv_iconst (v := 1) hx hb dX11_laysCosts_89 (by decide) ?_
                      refine lv_iload hx hb dX11_laysCosts_90 (lv_at hl 5 rfl) ?_
                      refine lv_ishl hx hb dX11_laysCosts_92 ?_
                      refine lv_ior hx hb dX11_laysCosts_93 ?_
                      refine lv_imul hx hb dX11_laysCosts_94 ?_
                      refine lv_iload hx hb dX11_laysCosts_95 (lv_at hl 5 rfl) ?_
                      refine lv_iadd hx hb dX11_laysCosts_97 ?_
                      obtain ⟨g6, h⟩ := gd_elim h
                      refine va_iald hx hb hK hP 9 1 rfl rfl (inb_in g6) dX11_laysCosts_98 ?_
                      refine lv_iadd hx hb dX11_laysCosts_99 ?_
                      refine va_mmin hx hb (hml.trans hl.1.symm) hown (hts (.methodLink RX11 130 Lib.Math.min.name) (List.mem_of_getElem? (i := 4) rfl)) (hts (.static Lib.Math.min.name) (List.mem_of_getElem? (i := 5) rfl)) (hts (.initialized "java/lang/Math") (List.mem_of_getElem? (i := 6) rfl)) (hts (.code Lib.Math.min.name Lib.Math.min.code 2 (some .int)) (List.mem_of_getElem? (i := 7) rfl)) (Nat.le_of_ble_eq_true rfl) (Nat.le_of_ble_eq_true rfl) (Nat.le_refl 0) (Nat.le_refl 0) dX11_laysCosts_100 ?_
                      refine lv_topi (fun x7 ex7 => ?_)
                      replace h := lt_use h x7 ex7
                      refine lv_istore (lv' := [(4, .int x7), (1, .int x1), (0, .ref h0), (2, .int q13.1), (3, .int q19.1), (5, .int q45.2)]) hx hb dX11_laysCosts_103 hl (by decide) rfl (fun ls hl => ?_)
                      refine lv_iinc (v := (q45.2 + (1 : Int32))) (lv' := [(5, .int (q45.2 + (1 : Int32))), (4, .int x7), (1, .int x1), (0, .ref h0), (2, .int q13.1), (3, .int q19.1)]) hx hb dX11_laysCosts_105 hl (k := 5) rfl rfl (by decide) rfl (fun ls hl => ?_)
                      refine lv_goto (tgt := 45) hx hb dX11_laysCosts_108 (by decide) ?_
                      exact ih _ o (hgo _ (Option.some.inj h).symm) H locs ls (lv_sub hl [2, 3, 4, 5, 1, 0] rfl) hP hD hS kk111
              obtain ⟨o45, ho45, h⟩ := bd_elim h
              obtain ⟨n45, hn45⟩ := loopF_some ho45
              refine L45 n45 _ o45 hn45 H locs ls (lv_sub hl [2, 3, 4, 5, 1, 0] rfl) hP hD hS (fun H locs ls hl hP hD hS => ?_)
              refine lv_aload_n hx hb dX11_laysCosts_111 rfl (lv_at hl 1 rfl) ?_
              refine va_get (D := D) (ci := 11) (v := .ref (a0 29)) (C := RX11) (T := TX11) (N := 38) hx hb hts hinX11 hown hK hP 0 rfl rfl 29 (by decide) (hts (.fieldLink RX11 50 "KneeBenchModel" "costs" "[I") (List.mem_of_getElem? (i := 3) rfl)) (fun _ h9 => h9) rfl dX11_laysCosts_112 ?_
              refine lv_bipush (v := 8) hx hb dX11_laysCosts_115 (by decide) ?_
              refine lv_iload_n hx hb dX11_laysCosts_117 rfl (lv_at hl 2 rfl) ?_
              refine lv_imul hx hb dX11_laysCosts_118 ?_
              refine lv_iload_n hx hb dX11_laysCosts_119 rfl (lv_at hl 3 rfl) ?_
              refine lv_iadd hx hb dX11_laysCosts_120 ?_
              refine lv_iload hx hb dX11_laysCosts_121 (lv_at hl 4 rfl) ?_
              obtain ⟨g8, h⟩ := gd_elim h
              obtain ⟨s0_9, es, h⟩ := lt_elim h
              refine va_iast hx hb hK hP hD hS 9 1 rfl rfl (inb_in g8) dX11_laysCosts_123 (fun H locs hP hD hS => ?_)
              have hP : va_P D vwCl (flat [WX11 cy h0 a0 s0_9]) H := by rw [es]; exact hP
              have hD : va_D A (flat [WX11 cy h0 a0 s0_9]) := by rw [es]; exact hD
              clear es
              refine lv_iinc (v := (q19.1 + (1 : Int32))) (lv' := [(3, .int (q19.1 + (1 : Int32))), (1, .int x1), (0, .ref h0), (2, .int q13.1), (4, .int o45)]) hx hb dX11_laysCosts_124 hl (k := 3) rfl rfl (by decide) rfl (fun ls hl => ?_)
              refine lv_goto (tgt := 19) hx hb dX11_laysCosts_127 (by decide) ?_
              exact ih _ o (hgo _ (Option.some.inj h).symm) H locs ls (lv_sub hl [1, 2, 3, 0] rfl) hP hD hS kk130
            refine lv_iload_n hx hb dX11_laysCosts_19 rfl (lv_at hl 3 rfl) ?_
            refine lv_aload_n hx hb dX11_laysCosts_20 rfl (lv_at hl 1 rfl) ?_
            refine va_get (D := D) (ci := 11) (v := .ref (a0 0)) (C := RX11) (T := TX11) (N := 38) hx hb hts hinX11 hown hK hP 0 rfl rfl 0 (by decide) (hts (.fieldLink RX11 7 "KneeBenchModel" "at" "[I") (List.mem_of_getElem? (i := 1) rfl)) (fun _ h9 => h9) rfl dX11_laysCosts_21 ?_
            refine lv_iconst (v := 0) hx hb dX11_laysCosts_24 (by decide) ?_
            refine va_iald hx hb hK hP 1 1 rfl rfl (inb_in (by decide)) dX11_laysCosts_25 ?_
            refine lv_icmp_ge (tgt := 130) hx hb dX11_laysCosts_26 (by decide) (fun c10 => ?_) (fun c10 => ?_)
            · replace h := (if_pos c10).symm.trans h
              have eo := hst _ (Option.some.inj h).symm
              subst eo
              exact kk130 H locs ls (lv_sub hl [0, 1, 2] rfl) hP hD hS
            · replace h := (if_neg c10).symm.trans h
              refine lv_iload_n hx hb dX11_laysCosts_29 rfl (lv_at hl 2 rfl) ?_
              refine lv_iload_n hx hb dX11_laysCosts_30 rfl (lv_at hl 0 rfl) ?_
              refine lv_icmp_ne (tgt := 38) hx hb dX11_laysCosts_31 (by decide) (fun c11 => ?_) (fun c11 => ?_)
              · replace h := (if_neg c11).symm.trans h
                refine lv_ldc (v := 1000000) hx hb hown (hts (.constant RX11 191 (1000000)) (List.mem_of_getElem? (i := 2) rfl)) dX11_laysCosts_38 ?_
                exact J40 (1000000 : Int32) H locs ls (lv_sub hl [0, 1, 2, 3] rfl) hP hD hS h
              · replace h := (if_pos c11).symm.trans h
                refine lv_iconst (v := 0) hx hb dX11_laysCosts_34 (by decide) ?_
                refine lv_goto (tgt := 40) hx hb dX11_laysCosts_35 (by decide) ?_
                exact J40 (0 : Int32) H locs ls (lv_sub hl [0, 1, 2, 3] rfl) hP hD hS h
        obtain ⟨o19, ho19, h⟩ := bd_elim h
        obtain ⟨n19, hn19⟩ := loopF_some ho19
        refine L19 n19 _ o19 hn19 H locs ls (lv_sub hl [1, 2, 3, 0] rfl) hP hD hS (fun H locs ls hl hP hD hS => ?_)
        refine lv_iinc (v := (q13.1 + (-1 : Int32))) (lv' := [(2, .int (q13.1 + (-1 : Int32))), (1, .int x1), (0, .ref h0)]) hx hb dX11_laysCosts_130 hl (k := 2) rfl rfl (by decide) rfl (fun ls hl => ?_)
        refine lv_goto (tgt := 13) hx hb dX11_laysCosts_133 (by decide) ?_
        exact ih _ o (hgo _ (Option.some.inj h).symm) H locs ls (lv_sub hl [1, 2, 0] rfl) hP hD hS kk136
  obtain ⟨o13, ho13, h⟩ := bd_elim h
  obtain ⟨n13, hn13⟩ := loopF_some ho13
  refine L13 n13 _ o13 hn13 H locs ls (lv_sub hl [1, 2, 0] rfl) hP hD hS (fun H locs ls hl hP hD hS => ?_)
  exact hret 136 H locs ls o13 (Option.some.inj h) hP hD hS dX11_laysCosts_136
theorem gd_X11_learn : wsX11_learn.all goodWord = true := by decide +kernel
set_option maxRecDepth 20000 in
theorem ggX11_learn_X11_isDay : GoodIn wsX11_learn wsX11_isDay := goodIn_by gd_X11_learn (List.forall_mem_cons.mpr ⟨List.mem_cons_of_mem _ (List.mem_append_left _ (List.mem_append_left _ (List.mem_of_getElem? (i := 4) rfl))), List.forall_mem_append.mpr ⟨List.forall_mem_cons.mpr ⟨List.mem_cons_of_mem _ (List.mem_append_left _ (List.mem_append_left _ (List.mem_of_getElem? (i := 5) rfl))), nowords_in⟩, (fun _ h => List.mem_cons_of_mem _ (List.mem_append_right _ (h)))⟩⟩)
set_option maxRecDepth 20000 in
theorem gX11_learn_X11_isDay : GoodIn wsX11_learn (wsV RX11 255 RX11 yX11_isDay wsX11_isDay) := goodIn_app (goodIn_by gd_X11_learn (List.forall_mem_cons.mpr ⟨List.mem_cons_of_mem _ (List.mem_append_left _ (List.mem_append_left _ (List.mem_of_getElem? (i := 0) rfl))), List.forall_mem_cons.mpr ⟨List.mem_cons_of_mem _ (List.mem_append_left _ (List.mem_append_left _ (List.mem_of_getElem? (i := 1) rfl))), List.forall_mem_cons.mpr ⟨List.mem_cons_of_mem _ (List.mem_append_left _ (List.mem_append_left _ (List.mem_of_getElem? (i := 2) rfl))), List.forall_mem_cons.mpr ⟨List.mem_cons_of_mem _ (List.mem_append_left _ (List.mem_append_left _ (List.mem_of_getElem? (i := 3) rfl))), nowords_in⟩⟩⟩⟩)) ggX11_learn_X11_isDay
set_option maxRecDepth 20000 in
theorem ggX11_learn_X11_learns : GoodIn wsX11_learn wsX11_learns := goodIn_by gd_X11_learn (List.forall_mem_cons.mpr ⟨List.mem_cons_of_mem _ (List.mem_append_left _ (List.mem_append_left _ (List.mem_of_getElem? (i := 9) rfl))), List.forall_mem_append.mpr ⟨List.forall_mem_append.mpr ⟨List.forall_mem_cons.mpr ⟨List.mem_cons_of_mem _ (List.mem_append_left _ (List.mem_append_left _ (List.mem_of_getElem? (i := 5) rfl))), List.forall_mem_cons.mpr ⟨List.mem_cons_of_mem _ (List.mem_append_left _ (List.mem_append_left _ (List.mem_of_getElem? (i := 10) rfl))), List.forall_mem_cons.mpr ⟨List.mem_cons_of_mem _ (List.mem_append_left _ (List.mem_append_left _ (List.mem_of_getElem? (i := 11) rfl))), List.forall_mem_cons.mpr ⟨List.mem_cons_of_mem _ (List.mem_append_left _ (List.mem_append_left _ (List.mem_of_getElem? (i := 12) rfl))), List.forall_mem_cons.mpr ⟨List.mem_cons_of_mem _ (List.mem_append_left _ (List.mem_append_left _ (List.mem_of_getElem? (i := 13) rfl))), List.forall_mem_cons.mpr ⟨List.mem_cons_of_mem _ (List.mem_append_left _ (List.mem_append_left _ (List.mem_of_getElem? (i := 14) rfl))), List.forall_mem_cons.mpr ⟨List.mem_cons_of_mem _ (List.mem_append_left _ (List.mem_append_left _ (List.mem_of_getElem? (i := 15) rfl))), List.forall_mem_cons.mpr ⟨List.mem_cons_of_mem _ (List.mem_append_left _ (List.mem_append_left _ (List.mem_of_getElem? (i := 16) rfl))), List.forall_mem_cons.mpr ⟨List.mem_cons_of_mem _ (List.mem_append_left _ (List.mem_append_left _ (List.mem_of_getElem? (i := 3) rfl))), List.forall_mem_cons.mpr ⟨List.mem_cons_of_mem _ (List.mem_append_left _ (List.mem_append_left _ (List.mem_of_getElem? (i := 17) rfl))), List.forall_mem_cons.mpr ⟨List.mem_cons_of_mem _ (List.mem_append_left _ (List.mem_append_left _ (List.mem_of_getElem? (i := 18) rfl))), List.forall_mem_cons.mpr ⟨List.mem_cons_of_mem _ (List.mem_append_left _ (List.mem_append_left _ (List.mem_of_getElem? (i := 19) rfl))), List.forall_mem_cons.mpr ⟨List.mem_cons_of_mem _ (List.mem_append_left _ (List.mem_append_left _ (List.mem_of_getElem? (i := 20) rfl))), List.forall_mem_cons.mpr ⟨List.mem_cons_of_mem _ (List.mem_append_left _ (List.mem_append_left _ (List.mem_of_getElem? (i := 21) rfl))), List.forall_mem_cons.mpr ⟨List.mem_cons_of_mem _ (List.mem_append_left _ (List.mem_append_left _ (List.mem_of_getElem? (i := 22) rfl))), List.forall_mem_cons.mpr ⟨List.mem_cons_of_mem _ (List.mem_append_left _ (List.mem_append_left _ (List.mem_of_getElem? (i := 23) rfl))), List.forall_mem_cons.mpr ⟨List.mem_cons_of_mem _ (List.mem_append_left _ (List.mem_append_right _ (List.mem_append_left _ (List.mem_of_getElem? (i := 0) rfl)))), List.forall_mem_cons.mpr ⟨List.mem_cons_of_mem _ (List.mem_append_left _ (List.mem_append_right _ (List.mem_append_left _ (List.mem_of_getElem? (i := 1) rfl)))), List.forall_mem_cons.mpr ⟨List.mem_cons_of_mem _ (List.mem_append_left _ (List.mem_append_right _ (List.mem_append_left _ (List.mem_of_getElem? (i := 2) rfl)))), List.forall_mem_cons.mpr ⟨List.mem_cons_of_mem _ (List.mem_append_left _ (List.mem_append_left _ (List.mem_of_getElem? (i := 0) rfl))), List.forall_mem_cons.mpr ⟨List.mem_cons_of_mem _ (List.mem_append_left _ (List.mem_append_left _ (List.mem_of_getElem? (i := 1) rfl))), List.forall_mem_cons.mpr ⟨List.mem_cons_of_mem _ (List.mem_append_left _ (List.mem_append_left _ (List.mem_of_getElem? (i := 2) rfl))), List.forall_mem_cons.mpr ⟨List.mem_cons_of_mem _ (List.mem_append_left _ (List.mem_append_left _ (List.mem_of_getElem? (i := 4) rfl))), List.forall_mem_cons.mpr ⟨List.mem_cons_of_mem _ (List.mem_append_left _ (List.mem_append_right _ (List.mem_append_left _ (List.mem_of_getElem? (i := 3) rfl)))), nowords_in⟩⟩⟩⟩⟩⟩⟩⟩⟩⟩⟩⟩⟩⟩⟩⟩⟩⟩⟩⟩⟩⟩⟩⟩, List.forall_mem_cons.mpr ⟨List.mem_cons_of_mem _ (List.mem_append_left _ (List.mem_append_right _ (List.mem_append_left _ (List.mem_of_getElem? (i := 4) rfl)))), List.forall_mem_cons.mpr ⟨List.mem_cons_of_mem _ (List.mem_append_left _ (List.mem_append_right _ (List.mem_append_left _ (List.mem_of_getElem? (i := 5) rfl)))), List.forall_mem_cons.mpr ⟨List.mem_cons_of_mem _ (List.mem_append_left _ (List.mem_append_right _ (List.mem_append_left _ (List.mem_of_getElem? (i := 6) rfl)))), List.forall_mem_cons.mpr ⟨List.mem_cons_of_mem _ (List.mem_append_left _ (List.mem_append_right _ (List.mem_append_left _ (List.mem_of_getElem? (i := 7) rfl)))), List.forall_mem_cons.mpr ⟨List.mem_cons_of_mem _ (List.mem_append_left _ (List.mem_append_right _ (List.mem_append_left _ (List.mem_of_getElem? (i := 8) rfl)))), List.forall_mem_cons.mpr ⟨List.mem_cons_of_mem _ (List.mem_append_left _ (List.mem_append_right _ (List.mem_append_left _ (List.mem_of_getElem? (i := 9) rfl)))), List.forall_mem_cons.mpr ⟨List.mem_cons_of_mem _ (List.mem_append_left _ (List.mem_append_right _ (List.mem_append_left _ (List.mem_of_getElem? (i := 10) rfl)))), List.forall_mem_cons.mpr ⟨List.mem_cons_of_mem _ (List.mem_append_left _ (List.mem_append_right _ (List.mem_append_left _ (List.mem_of_getElem? (i := 11) rfl)))), List.forall_mem_cons.mpr ⟨List.mem_cons_of_mem _ (List.mem_append_left _ (List.mem_append_right _ (List.mem_append_left _ (List.mem_of_getElem? (i := 12) rfl)))), List.forall_mem_cons.mpr ⟨List.mem_cons_of_mem _ (List.mem_append_left _ (List.mem_append_right _ (List.mem_append_left _ (List.mem_of_getElem? (i := 13) rfl)))), List.forall_mem_cons.mpr ⟨List.mem_cons_of_mem _ (List.mem_append_left _ (List.mem_append_right _ (List.mem_append_left _ (List.mem_of_getElem? (i := 14) rfl)))), List.forall_mem_cons.mpr ⟨List.mem_cons_of_mem _ (List.mem_append_left _ (List.mem_append_right _ (List.mem_append_left _ (List.mem_of_getElem? (i := 15) rfl)))), List.forall_mem_cons.mpr ⟨List.mem_cons_of_mem _ (List.mem_append_left _ (List.mem_append_right _ (List.mem_append_left _ (List.mem_of_getElem? (i := 16) rfl)))), List.forall_mem_cons.mpr ⟨List.mem_cons_of_mem _ (List.mem_append_left _ (List.mem_append_right _ (List.mem_append_left _ (List.mem_of_getElem? (i := 17) rfl)))), nowords_in⟩⟩⟩⟩⟩⟩⟩⟩⟩⟩⟩⟩⟩⟩⟩, (fun _ h => List.mem_cons_of_mem _ (List.mem_append_right _ (h)))⟩⟩)
set_option maxRecDepth 20000 in
theorem gX11_learn_X11_learns : GoodIn wsX11_learn (wsV RX11 344 RX11 yX11_learns wsX11_learns) := goodIn_app (goodIn_by gd_X11_learn (List.forall_mem_cons.mpr ⟨List.mem_cons_of_mem _ (List.mem_append_left _ (List.mem_append_left _ (List.mem_of_getElem? (i := 6) rfl))), List.forall_mem_cons.mpr ⟨List.mem_cons_of_mem _ (List.mem_append_left _ (List.mem_append_left _ (List.mem_of_getElem? (i := 7) rfl))), List.forall_mem_cons.mpr ⟨List.mem_cons_of_mem _ (List.mem_append_left _ (List.mem_append_left _ (List.mem_of_getElem? (i := 8) rfl))), List.forall_mem_cons.mpr ⟨List.mem_cons_of_mem _ (List.mem_append_left _ (List.mem_append_left _ (List.mem_of_getElem? (i := 3) rfl))), nowords_in⟩⟩⟩⟩)) ggX11_learn_X11_learns
set_option maxRecDepth 20000 in
theorem ggX11_learn_X11_gives : GoodIn wsX11_learn wsX11_gives := goodIn_by gd_X11_learn (List.forall_mem_cons.mpr ⟨List.mem_cons_of_mem _ (List.mem_append_left _ (List.mem_append_right _ (List.mem_append_left _ (List.mem_of_getElem? (i := 21) rfl)))), List.forall_mem_append.mpr ⟨List.forall_mem_cons.mpr ⟨List.mem_cons_of_mem _ (List.mem_append_left _ (List.mem_append_right _ (List.mem_append_left _ (List.mem_of_getElem? (i := 22) rfl)))), nowords_in⟩, (fun _ h => List.mem_cons_of_mem _ (List.mem_append_right _ (h)))⟩⟩)
set_option maxRecDepth 20000 in
theorem gX11_learn_X11_gives : GoodIn wsX11_learn (wsV RX11 79 RX11 yX11_gives wsX11_gives) := goodIn_app (goodIn_by gd_X11_learn (List.forall_mem_cons.mpr ⟨List.mem_cons_of_mem _ (List.mem_append_left _ (List.mem_append_right _ (List.mem_append_left _ (List.mem_of_getElem? (i := 18) rfl)))), List.forall_mem_cons.mpr ⟨List.mem_cons_of_mem _ (List.mem_append_left _ (List.mem_append_right _ (List.mem_append_left _ (List.mem_of_getElem? (i := 19) rfl)))), List.forall_mem_cons.mpr ⟨List.mem_cons_of_mem _ (List.mem_append_left _ (List.mem_append_right _ (List.mem_append_left _ (List.mem_of_getElem? (i := 20) rfl)))), List.forall_mem_cons.mpr ⟨List.mem_cons_of_mem _ (List.mem_append_left _ (List.mem_append_left _ (List.mem_of_getElem? (i := 3) rfl))), nowords_in⟩⟩⟩⟩)) ggX11_learn_X11_gives
set_option maxRecDepth 20000 in
theorem ggX11_learn_X11_refuse : GoodIn wsX11_learn wsX11_refuse := goodIn_by gd_X11_learn (List.forall_mem_cons.mpr ⟨List.mem_cons_of_mem _ (List.mem_append_left _ (List.mem_append_right _ (List.mem_append_right _ (List.mem_of_getElem? (i := 2) rfl)))), List.forall_mem_append.mpr ⟨List.forall_mem_cons.mpr ⟨List.mem_cons_of_mem _ (List.mem_append_left _ (List.mem_append_right _ (List.mem_append_left _ (List.mem_of_getElem? (i := 22) rfl)))), nowords_in⟩, (fun _ h => List.mem_cons_of_mem _ (List.mem_append_right _ (h)))⟩⟩)
set_option maxRecDepth 20000 in
theorem gX11_learn_X11_refuse : GoodIn wsX11_learn (wsV RX11 75 RX11 yX11_refuse wsX11_refuse) := goodIn_app (goodIn_by gd_X11_learn (List.forall_mem_cons.mpr ⟨List.mem_cons_of_mem _ (List.mem_append_left _ (List.mem_append_right _ (List.mem_append_left _ (List.mem_of_getElem? (i := 23) rfl)))), List.forall_mem_cons.mpr ⟨List.mem_cons_of_mem _ (List.mem_append_left _ (List.mem_append_right _ (List.mem_append_right _ (List.mem_of_getElem? (i := 0) rfl)))), List.forall_mem_cons.mpr ⟨List.mem_cons_of_mem _ (List.mem_append_left _ (List.mem_append_right _ (List.mem_append_right _ (List.mem_of_getElem? (i := 1) rfl)))), List.forall_mem_cons.mpr ⟨List.mem_cons_of_mem _ (List.mem_append_left _ (List.mem_append_left _ (List.mem_of_getElem? (i := 3) rfl))), nowords_in⟩⟩⟩⟩)) ggX11_learn_X11_refuse
theorem dX11_learn_0 : decode cX11_learn 0 = .ok (.aload_n 0, 1) := by decide +kernel
theorem dX11_learn_1 : decode cX11_learn 1 = .ok (.iload_n 1, 1) := by decide +kernel
theorem dX11_learn_2 : decode cX11_learn 2 = .ok (.invokevirtual 255, 3) := by decide +kernel
theorem dX11_learn_5 : decode cX11_learn 5 = .ok (.ifCond .eq 15, 3) := by decide +kernel
theorem dX11_learn_8 : decode cX11_learn 8 = .ok (.aload_n 0, 1) := by decide +kernel
theorem dX11_learn_9 : decode cX11_learn 9 = .ok (.aload_n 0, 1) := by decide +kernel
theorem dX11_learn_10 : decode cX11_learn 10 = .ok (.iload_n 1, 1) := by decide +kernel
theorem dX11_learn_11 : decode cX11_learn 11 = .ok (.invokevirtual 344, 3) := by decide +kernel
theorem dX11_learn_14 : decode cX11_learn 14 = .ok (.invokevirtual 79, 3) := by decide +kernel
theorem dX11_learn_17 : decode cX11_learn 17 = .ok (.goto 8, 3) := by decide +kernel
theorem dX11_learn_20 : decode cX11_learn 20 = .ok (.aload_n 0, 1) := by decide +kernel
theorem dX11_learn_21 : decode cX11_learn 21 = .ok (.iconst 1, 1) := by decide +kernel
theorem dX11_learn_22 : decode cX11_learn 22 = .ok (.invokevirtual 75, 3) := by decide +kernel
theorem dX11_learn_25 : decode cX11_learn 25 = .ok (.ireturn, 1) := by decide +kernel
abbrev rmX11_learn : Room := { frames := 5, cells := 0, slots := 0, locals := 112 }
set_option maxHeartbeats 4000000 in
set_option maxRecDepth 100000 in
theorem kX11_learn (l : Launch) (D : va_G) (cy : Nat → ClassId) (h0 : Nat) (a0 : Nat → Nat) (s0 : Rc) (p1 : Int32) (res : Int32 × Rc) (h : fX11_learn p1 s0 = some res) : CI l D cy yX11_learn wsX11_learn rmX11_learn [.ref h0, .int p1] (flat [WX11 cy h0 a0 s0]) (flat [WX11 cy h0 a0 res.2]) res.1 := by
  refine CI.of (cc := cX11_learn) (maxL := 2) (by decide) rfl (Nat.le_of_ble_eq_true rfl) ?_
  intro p e s m args below meth c A QQ ls E hr
  obtain ⟨hx, hb, hml, hown, hts, hK, hN, hP, hD, hA, hl⟩ := E
  have hret : ∀ (pc : Nat) (H : Heap) (locs : List Loc) (ls : Array Slot) (u : Int32 × Rc), u = res → va_P D vwCl (flat [WX11 cy h0 a0 u.2]) H → va_D A (flat [WX11 cy h0 a0 u.2]) → va_S A s.heap H locs → decode cX11_learn pc = .ok (.ireturn, 1) → W p l e rmX11_learn s m args below meth c H locs 0 0 QQ (F0 m pc ls [.int u.1]) := by
    intro pc H locs ls u hu hP hD hS hd; subst hu; exact hr pc H locs ls _ rfl hP hD hS hd
  clear hr
  have hl : lv_has ls 2 [(0, .ref h0), (1, .int p1)] := hl
  unfold fX11_learn at h
  suffices key : ∀ (H : Heap) (locs : List Loc), va_P D vwCl (flat [WX11 cy h0 a0 s0]) H → va_S A s.heap H locs → W p l e rmX11_learn s m args below meth c H locs 0 0 QQ (F0 m 0 ls []) from key _ _ hP va_S.rf
  clear hP
  intro H locs hP hS
  refine lv_aload_n hx hb dX11_learn_0 rfl (lv_at hl 0 rfl) ?_
  refine lv_iload_n hx hb dX11_learn_1 rfl (lv_at hl 1 rfl) ?_
  refine ca_z (w' := [WX11 cy h0 a0 s0]) (rn_V (As := [.int p1]) (rest := []) ⟨hx, hb, hml, hown, hts⟩ (kX11_isDay l D cy h0 a0 s0 p1 _ rfl H.size) (cwV 1 hts gX11_learn_X11_isDay rfl rfl rfl (by decide +kernel) ⟨Nat.le_of_ble_eq_true rfl, Nat.le_of_ble_eq_true rfl⟩) hK hN hP hD [0] rfl rfl (ci := 11) (q0 := 0) rfl rfl rfl rfl hl.1 rfl (Nat.le_of_ble_eq_true rfl) dX11_learn_2 ⟨Nat.le_refl 0, Nat.le_refl 0⟩) hP hD hS hA [0] ⟨rfl, rfl, rfl, rfl⟩ (fun b1 H locs hP hD hS => ?_)
  refine lv_if_eq (tgt := 20) hx hb dX11_learn_5 (by decide) (fun c2 => ?_) (fun c2 => ?_)
  · replace h := (if_pos c2).symm.trans h
    refine lv_aload_n hx hb dX11_learn_20 rfl (lv_at hl 0 rfl) ?_
    refine lv_iconst (v := 1) hx hb dX11_learn_21 (by decide) ?_
    obtain ⟨r3, hr3, h⟩ := lt_elim h
    refine ca_i (w' := [WX11 cy h0 a0 r3.2]) (rn_V (As := [.int (1 : Int32)]) (rest := []) ⟨hx, hb, hml, hown, hts⟩ (kX11_refuse l D cy h0 a0 s0 (1 : Int32) r3 hr3.symm H.size) (cwV 1 hts gX11_learn_X11_refuse rfl rfl rfl (by decide +kernel) ⟨Nat.le_of_ble_eq_true rfl, Nat.le_of_ble_eq_true rfl⟩) hK hN hP hD [0] rfl rfl (ci := 11) (q0 := 0) rfl rfl rfl rfl hl.1 rfl (Nat.le_of_ble_eq_true rfl) dX11_learn_22 ⟨Nat.le_refl 0, Nat.le_refl 0⟩) hP hD hS hA [0] ⟨rfl, rfl, rfl, rfl⟩ (fun H locs hP hD hS => ?_)
    exact hret 25 H locs ls (r3.1, r3.2) (Option.some.inj h) hP hD hS dX11_learn_25
  · replace h := (if_neg c2).symm.trans h
    refine lv_aload_n hx hb dX11_learn_8 rfl (lv_at hl 0 rfl) ?_
    refine lv_aload_n hx hb dX11_learn_9 rfl (lv_at hl 0 rfl) ?_
    refine lv_iload_n hx hb dX11_learn_10 rfl (lv_at hl 1 rfl) ?_
    obtain ⟨r4, hr4, h⟩ := bd_elim h
    refine ca_i (w' := [WX11 cy h0 a0 r4.2]) (rn_V (As := [.int p1]) (rest := [.ref h0]) ⟨hx, hb, hml, hown, hts⟩ (kX11_learns l D cy h0 a0 s0 p1 r4 hr4 H.size) (cwV 1 hts gX11_learn_X11_learns rfl rfl rfl (by decide +kernel) ⟨Nat.le_of_ble_eq_true rfl, Nat.le_of_ble_eq_true rfl⟩) hK hN hP hD [0] rfl rfl (ci := 11) (q0 := 0) rfl rfl rfl rfl hl.1 rfl (Nat.le_of_ble_eq_true rfl) dX11_learn_11 ⟨Nat.le_refl 0, Nat.le_refl 0⟩) hP hD hS hA [0] ⟨rfl, rfl, rfl, rfl⟩ (fun H locs hP hD hS => ?_)
    obtain ⟨r5, hr5, h⟩ := lt_elim h
    refine ca_i (w' := [WX11 cy h0 a0 r5.2]) (rn_V (As := [.int r4.1]) (rest := []) ⟨hx, hb, hml, hown, hts⟩ (kX11_gives l D cy h0 a0 r4.2 r4.1 r5 hr5.symm H.size) (cwV 1 hts gX11_learn_X11_gives rfl rfl rfl (by decide +kernel) ⟨Nat.le_of_ble_eq_true rfl, Nat.le_of_ble_eq_true rfl⟩) hK hN hP hD [0] rfl rfl (ci := 11) (q0 := 0) rfl rfl rfl rfl hl.1 rfl (Nat.le_of_ble_eq_true rfl) dX11_learn_14 ⟨Nat.le_refl 0, Nat.le_refl 0⟩) hP hD hS hA [0] ⟨rfl, rfl, rfl, rfl⟩ (fun H locs hP hD hS => ?_)
    refine lv_goto (tgt := 25) hx hb dX11_learn_17 (by decide) ?_
    exact hret 25 H locs ls (r5.1, r5.2) (Option.some.inj h) hP hD hS dX11_learn_25
theorem gd_X11_lie : wsX11_lie.all goodWord = true := by decide +kernel
set_option maxRecDepth 20000 in
theorem ggX11_lie_X11_isIn : GoodIn wsX11_lie wsX11_isIn := goodIn_by gd_X11_lie (List.forall_mem_cons.mpr ⟨List.mem_cons_of_mem _ (List.mem_append_left _ (List.mem_append_left _ (List.mem_of_getElem? (i := 4) rfl))), List.forall_mem_append.mpr ⟨List.forall_mem_cons.mpr ⟨List.mem_cons_of_mem _ (List.mem_append_left _ (List.mem_append_left _ (List.mem_of_getElem? (i := 5) rfl))), List.forall_mem_cons.mpr ⟨List.mem_cons_of_mem _ (List.mem_append_left _ (List.mem_append_left _ (List.mem_of_getElem? (i := 6) rfl))), List.forall_mem_cons.mpr ⟨List.mem_cons_of_mem _ (List.mem_append_left _ (List.mem_append_left _ (List.mem_of_getElem? (i := 7) rfl))), List.forall_mem_cons.mpr ⟨List.mem_cons_of_mem _ (List.mem_append_left _ (List.mem_append_left _ (List.mem_of_getElem? (i := 3) rfl))), List.forall_mem_cons.mpr ⟨List.mem_cons_of_mem _ (List.mem_append_left _ (List.mem_append_left _ (List.mem_of_getElem? (i := 8) rfl))), List.forall_mem_cons.mpr ⟨List.mem_cons_of_mem _ (List.mem_append_left _ (List.mem_append_left _ (List.mem_of_getElem? (i := 9) rfl))), List.forall_mem_cons.mpr ⟨List.mem_cons_of_mem _ (List.mem_append_left _ (List.mem_append_left _ (List.mem_of_getElem? (i := 10) rfl))), List.forall_mem_cons.mpr ⟨List.mem_cons_of_mem _ (List.mem_append_left _ (List.mem_append_left _ (List.mem_of_getElem? (i := 11) rfl))), List.forall_mem_cons.mpr ⟨List.mem_cons_of_mem _ (List.mem_append_left _ (List.mem_append_left _ (List.mem_of_getElem? (i := 12) rfl))), List.forall_mem_cons.mpr ⟨List.mem_cons_of_mem _ (List.mem_append_left _ (List.mem_append_left _ (List.mem_of_getElem? (i := 13) rfl))), nowords_in⟩⟩⟩⟩⟩⟩⟩⟩⟩⟩, (fun _ h => List.mem_cons_of_mem _ (List.mem_append_right _ (h)))⟩⟩)
set_option maxRecDepth 20000 in
theorem gX11_lie_X11_isIn : GoodIn wsX11_lie (wsV RX11 270 RX11 yX11_isIn wsX11_isIn) := goodIn_app (goodIn_by gd_X11_lie (List.forall_mem_cons.mpr ⟨List.mem_cons_of_mem _ (List.mem_append_left _ (List.mem_append_left _ (List.mem_of_getElem? (i := 0) rfl))), List.forall_mem_cons.mpr ⟨List.mem_cons_of_mem _ (List.mem_append_left _ (List.mem_append_left _ (List.mem_of_getElem? (i := 1) rfl))), List.forall_mem_cons.mpr ⟨List.mem_cons_of_mem _ (List.mem_append_left _ (List.mem_append_left _ (List.mem_of_getElem? (i := 2) rfl))), List.forall_mem_cons.mpr ⟨List.mem_cons_of_mem _ (List.mem_append_left _ (List.mem_append_left _ (List.mem_of_getElem? (i := 3) rfl))), nowords_in⟩⟩⟩⟩)) ggX11_lie_X11_isIn
set_option maxRecDepth 20000 in
theorem ggX11_lie_X11_turnsRound : GoodIn wsX11_lie wsX11_turnsRound := goodIn_by gd_X11_lie (List.forall_mem_cons.mpr ⟨List.mem_cons_of_mem _ (List.mem_append_left _ (List.mem_append_left _ (List.mem_of_getElem? (i := 17) rfl))), List.forall_mem_append.mpr ⟨List.forall_mem_cons.mpr ⟨List.mem_cons_of_mem _ (List.mem_append_left _ (List.mem_append_left _ (List.mem_of_getElem? (i := 9) rfl))), List.forall_mem_cons.mpr ⟨List.mem_cons_of_mem _ (List.mem_append_left _ (List.mem_append_left _ (List.mem_of_getElem? (i := 18) rfl))), List.forall_mem_cons.mpr ⟨List.mem_cons_of_mem _ (List.mem_append_left _ (List.mem_append_left _ (List.mem_of_getElem? (i := 19) rfl))), List.forall_mem_cons.mpr ⟨List.mem_cons_of_mem _ (List.mem_append_left _ (List.mem_append_left _ (List.mem_of_getElem? (i := 3) rfl))), List.forall_mem_cons.mpr ⟨List.mem_cons_of_mem _ (List.mem_append_left _ (List.mem_append_left _ (List.mem_of_getElem? (i := 20) rfl))), nowords_in⟩⟩⟩⟩⟩, (fun _ h => List.mem_cons_of_mem _ (List.mem_append_right _ (h)))⟩⟩)
set_option maxRecDepth 20000 in
theorem gX11_lie_X11_turnsRound : GoodIn wsX11_lie (wsV RX11 289 RX11 yX11_turnsRound wsX11_turnsRound) := goodIn_app (goodIn_by gd_X11_lie (List.forall_mem_cons.mpr ⟨List.mem_cons_of_mem _ (List.mem_append_left _ (List.mem_append_left _ (List.mem_of_getElem? (i := 14) rfl))), List.forall_mem_cons.mpr ⟨List.mem_cons_of_mem _ (List.mem_append_left _ (List.mem_append_left _ (List.mem_of_getElem? (i := 15) rfl))), List.forall_mem_cons.mpr ⟨List.mem_cons_of_mem _ (List.mem_append_left _ (List.mem_append_left _ (List.mem_of_getElem? (i := 16) rfl))), List.forall_mem_cons.mpr ⟨List.mem_cons_of_mem _ (List.mem_append_left _ (List.mem_append_left _ (List.mem_of_getElem? (i := 3) rfl))), nowords_in⟩⟩⟩⟩)) ggX11_lie_X11_turnsRound
set_option maxRecDepth 20000 in
theorem ggX11_lie_X11_gives : GoodIn wsX11_lie wsX11_gives := goodIn_by gd_X11_lie (List.forall_mem_cons.mpr ⟨List.mem_cons_of_mem _ (List.mem_append_left _ (List.mem_append_right _ (List.mem_of_getElem? (i := 0) rfl))), List.forall_mem_append.mpr ⟨List.forall_mem_cons.mpr ⟨List.mem_cons_of_mem _ (List.mem_append_left _ (List.mem_append_right _ (List.mem_of_getElem? (i := 1) rfl))), nowords_in⟩, (fun _ h => List.mem_cons_of_mem _ (List.mem_append_right _ (h)))⟩⟩)
set_option maxRecDepth 20000 in
theorem gX11_lie_X11_gives : GoodIn wsX11_lie (wsV RX11 79 RX11 yX11_gives wsX11_gives) := goodIn_app (goodIn_by gd_X11_lie (List.forall_mem_cons.mpr ⟨List.mem_cons_of_mem _ (List.mem_append_left _ (List.mem_append_left _ (List.mem_of_getElem? (i := 21) rfl))), List.forall_mem_cons.mpr ⟨List.mem_cons_of_mem _ (List.mem_append_left _ (List.mem_append_left _ (List.mem_of_getElem? (i := 22) rfl))), List.forall_mem_cons.mpr ⟨List.mem_cons_of_mem _ (List.mem_append_left _ (List.mem_append_left _ (List.mem_of_getElem? (i := 23) rfl))), List.forall_mem_cons.mpr ⟨List.mem_cons_of_mem _ (List.mem_append_left _ (List.mem_append_left _ (List.mem_of_getElem? (i := 3) rfl))), nowords_in⟩⟩⟩⟩)) ggX11_lie_X11_gives
set_option maxRecDepth 20000 in
theorem ggX11_lie_X11_refuse : GoodIn wsX11_lie wsX11_refuse := goodIn_by gd_X11_lie (List.forall_mem_cons.mpr ⟨List.mem_cons_of_mem _ (List.mem_append_left _ (List.mem_append_right _ (List.mem_of_getElem? (i := 5) rfl))), List.forall_mem_append.mpr ⟨List.forall_mem_cons.mpr ⟨List.mem_cons_of_mem _ (List.mem_append_left _ (List.mem_append_right _ (List.mem_of_getElem? (i := 1) rfl))), nowords_in⟩, (fun _ h => List.mem_cons_of_mem _ (List.mem_append_right _ (h)))⟩⟩)
set_option maxRecDepth 20000 in
theorem gX11_lie_X11_refuse : GoodIn wsX11_lie (wsV RX11 75 RX11 yX11_refuse wsX11_refuse) := goodIn_app (goodIn_by gd_X11_lie (List.forall_mem_cons.mpr ⟨List.mem_cons_of_mem _ (List.mem_append_left _ (List.mem_append_right _ (List.mem_of_getElem? (i := 2) rfl))), List.forall_mem_cons.mpr ⟨List.mem_cons_of_mem _ (List.mem_append_left _ (List.mem_append_right _ (List.mem_of_getElem? (i := 3) rfl))), List.forall_mem_cons.mpr ⟨List.mem_cons_of_mem _ (List.mem_append_left _ (List.mem_append_right _ (List.mem_of_getElem? (i := 4) rfl))), List.forall_mem_cons.mpr ⟨List.mem_cons_of_mem _ (List.mem_append_left _ (List.mem_append_left _ (List.mem_of_getElem? (i := 3) rfl))), nowords_in⟩⟩⟩⟩)) ggX11_lie_X11_refuse
theorem dX11_lie_0 : decode cX11_lie 0 = .ok (.aload_n 0, 1) := by decide +kernel
theorem dX11_lie_1 : decode cX11_lie 1 = .ok (.iload_n 1, 1) := by decide +kernel
theorem dX11_lie_2 : decode cX11_lie 2 = .ok (.iload_n 2, 1) := by decide +kernel
theorem dX11_lie_3 : decode cX11_lie 3 = .ok (.invokevirtual 270, 3) := by decide +kernel
theorem dX11_lie_6 : decode cX11_lie 6 = .ok (.ifCond .eq 16, 3) := by decide +kernel
theorem dX11_lie_9 : decode cX11_lie 9 = .ok (.aload_n 0, 1) := by decide +kernel
theorem dX11_lie_10 : decode cX11_lie 10 = .ok (.aload_n 0, 1) := by decide +kernel
theorem dX11_lie_11 : decode cX11_lie 11 = .ok (.iload_n 1, 1) := by decide +kernel
theorem dX11_lie_12 : decode cX11_lie 12 = .ok (.iload_n 2, 1) := by decide +kernel
theorem dX11_lie_13 : decode cX11_lie 13 = .ok (.invokevirtual 289, 3) := by decide +kernel
theorem dX11_lie_16 : decode cX11_lie 16 = .ok (.invokevirtual 79, 3) := by decide +kernel
theorem dX11_lie_19 : decode cX11_lie 19 = .ok (.goto 8, 3) := by decide +kernel
theorem dX11_lie_22 : decode cX11_lie 22 = .ok (.aload_n 0, 1) := by decide +kernel
theorem dX11_lie_23 : decode cX11_lie 23 = .ok (.iconst 1, 1) := by decide +kernel
theorem dX11_lie_24 : decode cX11_lie 24 = .ok (.invokevirtual 75, 3) := by decide +kernel
theorem dX11_lie_27 : decode cX11_lie 27 = .ok (.ireturn, 1) := by decide +kernel
abbrev rmX11_lie : Room := { frames := 2, cells := 0, slots := 0, locals := 43 }
set_option maxHeartbeats 4000000 in
set_option maxRecDepth 100000 in
theorem kX11_lie (l : Launch) (D : va_G) (cy : Nat → ClassId) (h0 : Nat) (a0 : Nat → Nat) (s0 : Rc) (p1 : Int32) (p2 : Int32) (res : Int32 × Rc) (h : fX11_lie p1 p2 s0 = some res) : CI l D cy yX11_lie wsX11_lie rmX11_lie [.ref h0, .int p1, .int p2] (flat [WX11 cy h0 a0 s0]) (flat [WX11 cy h0 a0 res.2]) res.1 := by
  refine CI.of (cc := cX11_lie) (maxL := 3) (by decide) rfl (Nat.le_of_ble_eq_true rfl) ?_
  intro p e s m args below meth c A QQ ls E hr
  obtain ⟨hx, hb, hml, hown, hts, hK, hN, hP, hD, hA, hl⟩ := E
  have hret : ∀ (pc : Nat) (H : Heap) (locs : List Loc) (ls : Array Slot) (u : Int32 × Rc), u = res → va_P D vwCl (flat [WX11 cy h0 a0 u.2]) H → va_D A (flat [WX11 cy h0 a0 u.2]) → va_S A s.heap H locs → decode cX11_lie pc = .ok (.ireturn, 1) → W p l e rmX11_lie s m args below meth c H locs 0 0 QQ (F0 m pc ls [.int u.1]) := by
    intro pc H locs ls u hu hP hD hS hd; subst hu; exact hr pc H locs ls _ rfl hP hD hS hd
  clear hr
  have hl : lv_has ls 3 [(0, .ref h0), (1, .int p1), (2, .int p2)] := hl
  unfold fX11_lie at h
  suffices key : ∀ (H : Heap) (locs : List Loc), va_P D vwCl (flat [WX11 cy h0 a0 s0]) H → va_S A s.heap H locs → W p l e rmX11_lie s m args below meth c H locs 0 0 QQ (F0 m 0 ls []) from key _ _ hP va_S.rf
  clear hP
  intro H locs hP hS
  refine lv_aload_n hx hb dX11_lie_0 rfl (lv_at hl 0 rfl) ?_
  refine lv_iload_n hx hb dX11_lie_1 rfl (lv_at hl 1 rfl) ?_
  refine lv_iload_n hx hb dX11_lie_2 rfl (lv_at hl 2 rfl) ?_
  refine ca_z (w' := [WX11 cy h0 a0 s0]) (rn_V (As := [.int p1, .int p2]) (rest := []) ⟨hx, hb, hml, hown, hts⟩ (kX11_isIn l D cy h0 a0 s0 p1 p2 _ rfl H.size) (cwV 2 hts gX11_lie_X11_isIn rfl rfl rfl (by decide +kernel) ⟨Nat.le_of_ble_eq_true rfl, Nat.le_of_ble_eq_true rfl⟩) hK hN hP hD [0] rfl rfl (ci := 11) (q0 := 0) rfl rfl rfl rfl hl.1 rfl (Nat.le_of_ble_eq_true rfl) dX11_lie_3 ⟨Nat.le_refl 0, Nat.le_refl 0⟩) hP hD hS hA [0] ⟨rfl, rfl, rfl, rfl⟩ (fun b1 H locs hP hD hS => ?_)
  refine lv_if_eq (tgt := 22) hx hb dX11_lie_6 (by decide) (fun c2 => ?_) (fun c2 => ?_)
  · replace h := (if_pos c2).symm.trans h
    refine lv_aload_n hx hb dX11_lie_22 rfl (lv_at hl 0 rfl) ?_
    refine lv_iconst (v := 1) hx hb dX11_lie_23 (by decide) ?_
    obtain ⟨r3, hr3, h⟩ := lt_elim h
    refine ca_i (w' := [WX11 cy h0 a0 r3.2]) (rn_V (As := [.int (1 : Int32)]) (rest := []) ⟨hx, hb, hml, hown, hts⟩ (kX11_refuse l D cy h0 a0 s0 (1 : Int32) r3 hr3.symm H.size) (cwV 1 hts gX11_lie_X11_refuse rfl rfl rfl (by decide +kernel) ⟨Nat.le_of_ble_eq_true rfl, Nat.le_of_ble_eq_true rfl⟩) hK hN hP hD [0] rfl rfl (ci := 11) (q0 := 0) rfl rfl rfl rfl hl.1 rfl (Nat.le_of_ble_eq_true rfl) dX11_lie_24 ⟨Nat.le_refl 0, Nat.le_refl 0⟩) hP hD hS hA [0] ⟨rfl, rfl, rfl, rfl⟩ (fun H locs hP hD hS => ?_)
    exact hret 27 H locs ls (r3.1, r3.2) (Option.some.inj h) hP hD hS dX11_lie_27
  · replace h := (if_neg c2).symm.trans h
    refine lv_aload_n hx hb dX11_lie_9 rfl (lv_at hl 0 rfl) ?_
    refine lv_aload_n hx hb dX11_lie_10 rfl (lv_at hl 0 rfl) ?_
    refine lv_iload_n hx hb dX11_lie_11 rfl (lv_at hl 1 rfl) ?_
    refine lv_iload_n hx hb dX11_lie_12 rfl (lv_at hl 2 rfl) ?_
    obtain ⟨r4, hr4, h⟩ := bd_elim h
    refine ca_i (w' := [WX11 cy h0 a0 r4.2]) (rn_V (As := [.int p1, .int p2]) (rest := [.ref h0]) ⟨hx, hb, hml, hown, hts⟩ (kX11_turnsRound l D cy h0 a0 s0 p1 p2 r4 hr4 H.size) (cwV 2 hts gX11_lie_X11_turnsRound rfl rfl rfl (by decide +kernel) ⟨Nat.le_of_ble_eq_true rfl, Nat.le_of_ble_eq_true rfl⟩) hK hN hP hD [0] rfl rfl (ci := 11) (q0 := 0) rfl rfl rfl rfl hl.1 rfl (Nat.le_of_ble_eq_true rfl) dX11_lie_13 ⟨Nat.le_refl 0, Nat.le_refl 0⟩) hP hD hS hA [0] ⟨rfl, rfl, rfl, rfl⟩ (fun H locs hP hD hS => ?_)
    obtain ⟨r5, hr5, h⟩ := lt_elim h
    refine ca_i (w' := [WX11 cy h0 a0 r5.2]) (rn_V (As := [.int r4.1]) (rest := []) ⟨hx, hb, hml, hown, hts⟩ (kX11_gives l D cy h0 a0 r4.2 r4.1 r5 hr5.symm H.size) (cwV 1 hts gX11_lie_X11_gives rfl rfl rfl (by decide +kernel) ⟨Nat.le_of_ble_eq_true rfl, Nat.le_of_ble_eq_true rfl⟩) hK hN hP hD [0] rfl rfl (ci := 11) (q0 := 0) rfl rfl rfl rfl hl.1 rfl (Nat.le_of_ble_eq_true rfl) dX11_lie_16 ⟨Nat.le_refl 0, Nat.le_refl 0⟩) hP hD hS hA [0] ⟨rfl, rfl, rfl, rfl⟩ (fun H locs hP hD hS => ?_)
    refine lv_goto (tgt := 27) hx hb dX11_lie_19 (by decide) ?_
    exact hret 27 H locs ls (r5.1, r5.2) (Option.some.inj h) hP hD hS dX11_lie_27
