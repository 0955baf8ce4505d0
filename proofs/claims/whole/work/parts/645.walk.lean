theorem gd_X11_seats : wsX11_seats.all goodWord = true := by decide +kernel
set_option maxRecDepth 20000 in
theorem ggX11_seats_X11_refuse : GoodIn wsX11_seats wsX11_refuse := goodIn_by gd_X11_seats (List.forall_mem_cons.mpr ⟨List.mem_cons_of_mem _ (List.mem_append_left _ (List.mem_append_left _ (List.mem_of_getElem? (i := 13) rfl))), List.forall_mem_append.mpr ⟨List.forall_mem_cons.mpr ⟨List.mem_cons_of_mem _ (List.mem_append_left _ (List.mem_append_left _ (List.mem_of_getElem? (i := 14) rfl))), nowords_in⟩, (fun _ h => List.mem_cons_of_mem _ (List.mem_append_right _ (h)))⟩⟩)
set_option maxRecDepth 20000 in
theorem gX11_seats_X11_refuse : GoodIn wsX11_seats (wsV RX11 75 RX11 yX11_refuse wsX11_refuse) := goodIn_app (goodIn_by gd_X11_seats (List.forall_mem_cons.mpr ⟨List.mem_cons_of_mem _ (List.mem_append_left _ (List.mem_append_left _ (List.mem_of_getElem? (i := 9) rfl))), List.forall_mem_cons.mpr ⟨List.mem_cons_of_mem _ (List.mem_append_left _ (List.mem_append_left _ (List.mem_of_getElem? (i := 10) rfl))), List.forall_mem_cons.mpr ⟨List.mem_cons_of_mem _ (List.mem_append_left _ (List.mem_append_left _ (List.mem_of_getElem? (i := 11) rfl))), List.forall_mem_cons.mpr ⟨List.mem_cons_of_mem _ (List.mem_append_left _ (List.mem_append_left _ (List.mem_of_getElem? (i := 12) rfl))), nowords_in⟩⟩⟩⟩)) ggX11_seats_X11_refuse
set_option maxRecDepth 20000 in
theorem ggX11_seats_X11_laysCosts : GoodIn wsX11_seats wsX11_laysCosts := goodIn_by gd_X11_seats (List.forall_mem_cons.mpr ⟨List.mem_cons_of_mem _ (List.mem_append_left _ (List.mem_append_left _ (List.mem_of_getElem? (i := 18) rfl))), List.forall_mem_append.mpr ⟨List.forall_mem_cons.mpr ⟨List.mem_cons_of_mem _ (List.mem_append_left _ (List.mem_append_left _ (List.mem_of_getElem? (i := 0) rfl))), List.forall_mem_cons.mpr ⟨List.mem_cons_of_mem _ (List.mem_append_left _ (List.mem_append_left _ (List.mem_of_getElem? (i := 1) rfl))), List.forall_mem_cons.mpr ⟨List.mem_cons_of_mem _ (List.mem_append_left _ (List.mem_append_left _ (List.mem_of_getElem? (i := 2) rfl))), List.forall_mem_cons.mpr ⟨List.mem_cons_of_mem _ (List.mem_append_left _ (List.mem_append_left _ (List.mem_of_getElem? (i := 3) rfl))), List.forall_mem_cons.mpr ⟨List.mem_cons_of_mem _ (List.mem_append_left _ (List.mem_append_left _ (List.mem_of_getElem? (i := 4) rfl))), List.forall_mem_cons.mpr ⟨List.mem_cons_of_mem _ (List.mem_append_left _ (List.mem_append_left _ (List.mem_of_getElem? (i := 5) rfl))), List.forall_mem_cons.mpr ⟨List.mem_cons_of_mem _ (List.mem_append_left _ (List.mem_append_left _ (List.mem_of_getElem? (i := 6) rfl))), nowords_in⟩⟩⟩⟩⟩⟩⟩, (fun _ h => List.mem_cons_of_mem _ (List.mem_append_right _ (h)))⟩⟩)
set_option maxRecDepth 20000 in
theorem gX11_seats_X11_laysCosts : GoodIn wsX11_seats (wsV RX11 373 RX11 yX11_laysCosts wsX11_laysCosts) := goodIn_app (goodIn_by gd_X11_seats (List.forall_mem_cons.mpr ⟨List.mem_cons_of_mem _ (List.mem_append_left _ (List.mem_append_left _ (List.mem_of_getElem? (i := 15) rfl))), List.forall_mem_cons.mpr ⟨List.mem_cons_of_mem _ (List.mem_append_left _ (List.mem_append_left _ (List.mem_of_getElem? (i := 16) rfl))), List.forall_mem_cons.mpr ⟨List.mem_cons_of_mem _ (List.mem_append_left _ (List.mem_append_left _ (List.mem_of_getElem? (i := 17) rfl))), List.forall_mem_cons.mpr ⟨List.mem_cons_of_mem _ (List.mem_append_left _ (List.mem_append_left _ (List.mem_of_getElem? (i := 12) rfl))), nowords_in⟩⟩⟩⟩)) ggX11_seats_X11_laysCosts
set_option maxRecDepth 20000 in
theorem ggX11_seats_X11_behind : GoodIn wsX11_seats wsX11_behind := goodIn_by gd_X11_seats (List.forall_mem_cons.mpr ⟨List.mem_cons_of_mem _ (List.mem_append_left _ (List.mem_append_left _ (List.mem_of_getElem? (i := 22) rfl))), List.forall_mem_append.mpr ⟨List.forall_mem_cons.mpr ⟨List.mem_cons_of_mem _ (List.mem_append_left _ (List.mem_append_left _ (List.mem_of_getElem? (i := 7) rfl))), List.forall_mem_cons.mpr ⟨List.mem_cons_of_mem _ (List.mem_append_left _ (List.mem_append_left _ (List.mem_of_getElem? (i := 0) rfl))), List.forall_mem_cons.mpr ⟨List.mem_cons_of_mem _ (List.mem_append_left _ (List.mem_append_left _ (List.mem_of_getElem? (i := 8) rfl))), nowords_in⟩⟩⟩, (fun _ h => List.mem_cons_of_mem _ (List.mem_append_right _ (h)))⟩⟩)
set_option maxRecDepth 20000 in
theorem gX11_seats_X11_behind : GoodIn wsX11_seats (wsV RX11 379 RX11 yX11_behind wsX11_behind) := goodIn_app (goodIn_by gd_X11_seats (List.forall_mem_cons.mpr ⟨List.mem_cons_of_mem _ (List.mem_append_left _ (List.mem_append_left _ (List.mem_of_getElem? (i := 19) rfl))), List.forall_mem_cons.mpr ⟨List.mem_cons_of_mem _ (List.mem_append_left _ (List.mem_append_left _ (List.mem_of_getElem? (i := 20) rfl))), List.forall_mem_cons.mpr ⟨List.mem_cons_of_mem _ (List.mem_append_left _ (List.mem_append_left _ (List.mem_of_getElem? (i := 21) rfl))), List.forall_mem_cons.mpr ⟨List.mem_cons_of_mem _ (List.mem_append_left _ (List.mem_append_left _ (List.mem_of_getElem? (i := 12) rfl))), nowords_in⟩⟩⟩⟩)) ggX11_seats_X11_behind
set_option maxRecDepth 20000 in
theorem ggX11_seats_X11_gives : GoodIn wsX11_seats wsX11_gives := goodIn_by gd_X11_seats (List.forall_mem_cons.mpr ⟨List.mem_cons_of_mem _ (List.mem_append_left _ (List.mem_append_right _ (List.mem_of_getElem? (i := 2) rfl))), List.forall_mem_append.mpr ⟨List.forall_mem_cons.mpr ⟨List.mem_cons_of_mem _ (List.mem_append_left _ (List.mem_append_left _ (List.mem_of_getElem? (i := 14) rfl))), nowords_in⟩, (fun _ h => List.mem_cons_of_mem _ (List.mem_append_right _ (h)))⟩⟩)
set_option maxRecDepth 20000 in
theorem gX11_seats_X11_gives : GoodIn wsX11_seats (wsV RX11 79 RX11 yX11_gives wsX11_gives) := goodIn_app (goodIn_by gd_X11_seats (List.forall_mem_cons.mpr ⟨List.mem_cons_of_mem _ (List.mem_append_left _ (List.mem_append_left _ (List.mem_of_getElem? (i := 23) rfl))), List.forall_mem_cons.mpr ⟨List.mem_cons_of_mem _ (List.mem_append_left _ (List.mem_append_right _ (List.mem_of_getElem? (i := 0) rfl))), List.forall_mem_cons.mpr ⟨List.mem_cons_of_mem _ (List.mem_append_left _ (List.mem_append_right _ (List.mem_of_getElem? (i := 1) rfl))), List.forall_mem_cons.mpr ⟨List.mem_cons_of_mem _ (List.mem_append_left _ (List.mem_append_left _ (List.mem_of_getElem? (i := 12) rfl))), nowords_in⟩⟩⟩⟩)) ggX11_seats_X11_gives
theorem dX11_seats_0 : decode cX11_seats 0 = .ok (.aload_n 0, 1) := by decide +kernel
theorem dX11_seats_1 : decode cX11_seats 1 = .ok (.getfield 7, 3) := by decide +kernel
theorem dX11_seats_4 : decode cX11_seats 4 = .ok (.iconst 0, 1) := by decide +kernel
theorem dX11_seats_5 : decode cX11_seats 5 = .ok (.iaload, 1) := by decide +kernel
theorem dX11_seats_6 : decode cX11_seats 6 = .ok (.istore_n 1, 1) := by decide +kernel
theorem dX11_seats_7 : decode cX11_seats 7 = .ok (.iload_n 1, 1) := by decide +kernel
theorem dX11_seats_8 : decode cX11_seats 8 = .ok (.ifCond .ne 10, 3) := by decide +kernel
theorem dX11_seats_11 : decode cX11_seats 11 = .ok (.aload_n 0, 1) := by decide +kernel
theorem dX11_seats_12 : decode cX11_seats 12 = .ok (.bipush 6, 2) := by decide +kernel
theorem dX11_seats_14 : decode cX11_seats 14 = .ok (.invokevirtual 75, 3) := by decide +kernel
theorem dX11_seats_17 : decode cX11_seats 17 = .ok (.ireturn, 1) := by decide +kernel
theorem dX11_seats_18 : decode cX11_seats 18 = .ok (.aload_n 0, 1) := by decide +kernel
theorem dX11_seats_19 : decode cX11_seats 19 = .ok (.invokevirtual 373, 3) := by decide +kernel
theorem dX11_seats_22 : decode cX11_seats 22 = .ok (.ldc 191, 2) := by decide +kernel
theorem dX11_seats_24 : decode cX11_seats 24 = .ok (.istore_n 2, 1) := by decide +kernel
theorem dX11_seats_25 : decode cX11_seats 25 = .ok (.iconst 0, 1) := by decide +kernel
theorem dX11_seats_26 : decode cX11_seats 26 = .ok (.istore_n 3, 1) := by decide +kernel
theorem dX11_seats_27 : decode cX11_seats 27 = .ok (.iload_n 3, 1) := by decide +kernel
theorem dX11_seats_28 : decode cX11_seats 28 = .ok (.iload_n 1, 1) := by decide +kernel
theorem dX11_seats_29 : decode cX11_seats 29 = .ok (.if_icmp .ge 27, 3) := by decide +kernel
theorem dX11_seats_32 : decode cX11_seats 32 = .ok (.iload_n 2, 1) := by decide +kernel
theorem dX11_seats_33 : decode cX11_seats 33 = .ok (.aload_n 0, 1) := by decide +kernel
theorem dX11_seats_34 : decode cX11_seats 34 = .ok (.getfield 50, 3) := by decide +kernel
theorem dX11_seats_37 : decode cX11_seats 37 = .ok (.bipush 8, 2) := by decide +kernel
theorem dX11_seats_39 : decode cX11_seats 39 = .ok (.iconst 1, 1) := by decide +kernel
theorem dX11_seats_40 : decode cX11_seats 40 = .ok (.iload_n 3, 1) := by decide +kernel
theorem dX11_seats_41 : decode cX11_seats 41 = .ok (.ishl, 1) := by decide +kernel
theorem dX11_seats_42 : decode cX11_seats 42 = .ok (.imul, 1) := by decide +kernel
theorem dX11_seats_43 : decode cX11_seats 43 = .ok (.iload_n 3, 1) := by decide +kernel
theorem dX11_seats_44 : decode cX11_seats 44 = .ok (.iadd, 1) := by decide +kernel
theorem dX11_seats_45 : decode cX11_seats 45 = .ok (.iaload, 1) := by decide +kernel
theorem dX11_seats_46 : decode cX11_seats 46 = .ok (.invokestatic 130, 3) := by decide +kernel
theorem dX11_seats_49 : decode cX11_seats 49 = .ok (.istore_n 2, 1) := by decide +kernel
theorem dX11_seats_50 : decode cX11_seats 50 = .ok (.iinc 3 1, 3) := by decide +kernel
theorem dX11_seats_53 : decode cX11_seats 53 = .ok (.goto (-26), 3) := by decide +kernel
theorem dX11_seats_56 : decode cX11_seats 56 = .ok (.iconst 0, 1) := by decide +kernel
theorem dX11_seats_57 : decode cX11_seats 57 = .ok (.istore_n 3, 1) := by decide +kernel
theorem dX11_seats_58 : decode cX11_seats 58 = .ok (.iload_n 2, 1) := by decide +kernel
theorem dX11_seats_59 : decode cX11_seats 59 = .ok (.istore 4, 2) := by decide +kernel
theorem dX11_seats_61 : decode cX11_seats 61 = .ok (.aload_n 0, 1) := by decide +kernel
theorem dX11_seats_62 : decode cX11_seats 62 = .ok (.iconst 0, 1) := by decide +kernel
theorem dX11_seats_63 : decode cX11_seats 63 = .ok (.putfield 376, 3) := by decide +kernel
theorem dX11_seats_66 : decode cX11_seats 66 = .ok (.aload_n 0, 1) := by decide +kernel
theorem dX11_seats_67 : decode cX11_seats 67 = .ok (.getfield 376, 3) := by decide +kernel
theorem dX11_seats_70 : decode cX11_seats 70 = .ok (.iload_n 1, 1) := by decide +kernel
theorem dX11_seats_71 : decode cX11_seats 71 = .ok (.if_icmp .ge 93, 3) := by decide +kernel
theorem dX11_seats_74 : decode cX11_seats 74 = .ok (.iconst 0, 1) := by decide +kernel
theorem dX11_seats_75 : decode cX11_seats 75 = .ok (.istore 5, 2) := by decide +kernel
theorem dX11_seats_77 : decode cX11_seats 77 = .ok (.iload_n 3, 1) := by decide +kernel
theorem dX11_seats_78 : decode cX11_seats 78 = .ok (.iload 5, 2) := by decide +kernel
theorem dX11_seats_80 : decode cX11_seats 80 = .ok (.ishr, 1) := by decide +kernel
theorem dX11_seats_81 : decode cX11_seats 81 = .ok (.iconst 1, 1) := by decide +kernel
theorem dX11_seats_82 : decode cX11_seats 82 = .ok (.iand, 1) := by decide +kernel
theorem dX11_seats_83 : decode cX11_seats 83 = .ok (.iconst 1, 1) := by decide +kernel
theorem dX11_seats_84 : decode cX11_seats 84 = .ok (.if_icmp .eq 32, 3) := by decide +kernel
theorem dX11_seats_87 : decode cX11_seats 87 = .ok (.aload_n 0, 1) := by decide +kernel
theorem dX11_seats_88 : decode cX11_seats 88 = .ok (.iload 5, 2) := by decide +kernel
theorem dX11_seats_90 : decode cX11_seats 90 = .ok (.invokevirtual 379, 3) := by decide +kernel
theorem dX11_seats_93 : decode cX11_seats 93 = .ok (.aload_n 0, 1) := by decide +kernel
theorem dX11_seats_94 : decode cX11_seats 94 = .ok (.getfield 50, 3) := by decide +kernel
theorem dX11_seats_97 : decode cX11_seats 97 = .ok (.bipush 8, 2) := by decide +kernel
theorem dX11_seats_99 : decode cX11_seats 99 = .ok (.iload_n 3, 1) := by decide +kernel
theorem dX11_seats_100 : decode cX11_seats 100 = .ok (.iconst 1, 1) := by decide +kernel
theorem dX11_seats_101 : decode cX11_seats 101 = .ok (.iload 5, 2) := by decide +kernel
theorem dX11_seats_103 : decode cX11_seats 103 = .ok (.ishl, 1) := by decide +kernel
theorem dX11_seats_104 : decode cX11_seats 104 = .ok (.ior, 1) := by decide +kernel
theorem dX11_seats_105 : decode cX11_seats 105 = .ok (.imul, 1) := by decide +kernel
theorem dX11_seats_106 : decode cX11_seats 106 = .ok (.iload 5, 2) := by decide +kernel
theorem dX11_seats_108 : decode cX11_seats 108 = .ok (.iadd, 1) := by decide +kernel
theorem dX11_seats_109 : decode cX11_seats 109 = .ok (.iaload, 1) := by decide +kernel
theorem dX11_seats_110 : decode cX11_seats 110 = .ok (.iadd, 1) := by decide +kernel
theorem dX11_seats_111 : decode cX11_seats 111 = .ok (.iload 4, 2) := by decide +kernel
theorem dX11_seats_113 : decode cX11_seats 113 = .ok (.if_icmp .eq 9, 3) := by decide +kernel
theorem dX11_seats_116 : decode cX11_seats 116 = .ok (.iinc 5 1, 3) := by decide +kernel
theorem dX11_seats_119 : decode cX11_seats 119 = .ok (.goto (-42), 3) := by decide +kernel
theorem dX11_seats_122 : decode cX11_seats 122 = .ok (.iload 4, 2) := by decide +kernel
theorem dX11_seats_124 : decode cX11_seats 124 = .ok (.aload_n 0, 1) := by decide +kernel
theorem dX11_seats_125 : decode cX11_seats 125 = .ok (.iload 5, 2) := by decide +kernel
theorem dX11_seats_127 : decode cX11_seats 127 = .ok (.invokevirtual 379, 3) := by decide +kernel
theorem dX11_seats_130 : decode cX11_seats 130 = .ok (.isub, 1) := by decide +kernel
theorem dX11_seats_131 : decode cX11_seats 131 = .ok (.istore 4, 2) := by decide +kernel
theorem dX11_seats_133 : decode cX11_seats 133 = .ok (.aload_n 0, 1) := by decide +kernel
theorem dX11_seats_134 : decode cX11_seats 134 = .ok (.getfield 53, 3) := by decide +kernel
theorem dX11_seats_137 : decode cX11_seats 137 = .ok (.aload_n 0, 1) := by decide +kernel
theorem dX11_seats_138 : decode cX11_seats 138 = .ok (.getfield 376, 3) := by decide +kernel
theorem dX11_seats_141 : decode cX11_seats 141 = .ok (.iload 5, 2) := by decide +kernel
theorem dX11_seats_143 : decode cX11_seats 143 = .ok (.iastore, 1) := by decide +kernel
theorem dX11_seats_144 : decode cX11_seats 144 = .ok (.aload_n 0, 1) := by decide +kernel
theorem dX11_seats_145 : decode cX11_seats 145 = .ok (.dup, 1) := by decide +kernel
theorem dX11_seats_146 : decode cX11_seats 146 = .ok (.getfield 376, 3) := by decide +kernel
theorem dX11_seats_149 : decode cX11_seats 149 = .ok (.iconst 1, 1) := by decide +kernel
theorem dX11_seats_150 : decode cX11_seats 150 = .ok (.iadd, 1) := by decide +kernel
theorem dX11_seats_151 : decode cX11_seats 151 = .ok (.putfield 376, 3) := by decide +kernel
theorem dX11_seats_154 : decode cX11_seats 154 = .ok (.iload_n 3, 1) := by decide +kernel
theorem dX11_seats_155 : decode cX11_seats 155 = .ok (.iconst 1, 1) := by decide +kernel
theorem dX11_seats_156 : decode cX11_seats 156 = .ok (.iload 5, 2) := by decide +kernel
theorem dX11_seats_158 : decode cX11_seats 158 = .ok (.ishl, 1) := by decide +kernel
theorem dX11_seats_159 : decode cX11_seats 159 = .ok (.ior, 1) := by decide +kernel
theorem dX11_seats_160 : decode cX11_seats 160 = .ok (.istore_n 3, 1) := by decide +kernel
theorem dX11_seats_161 : decode cX11_seats 161 = .ok (.goto (-95), 3) := by decide +kernel
theorem dX11_seats_164 : decode cX11_seats 164 = .ok (.aload_n 0, 1) := by decide +kernel
theorem dX11_seats_165 : decode cX11_seats 165 = .ok (.iload_n 2, 1) := by decide +kernel
theorem dX11_seats_166 : decode cX11_seats 166 = .ok (.invokevirtual 79, 3) := by decide +kernel
theorem dX11_seats_169 : decode cX11_seats 169 = .ok (.ireturn, 1) := by decide +kernel
abbrev rmX11_seats : Room := { frames := 2, cells := 0, slots := 0, locals := 38 }
set_option maxHeartbeats 4000000 in
set_option maxRecDepth 100000 in
theorem kX11_seats (l : Launch) (D : va_G) (cy : Nat → ClassId) (h0 : Nat) (a0 : Nat → Nat) (s0 : Rc) (res : Int32 × Rc) (h : fX11_seats s0 = some res) : CI l D cy yX11_seats wsX11_seats rmX11_seats [.ref h0] (flat [WX11 cy h0 a0 s0]) (flat [WX11 cy h0 a0 res.2]) res.1 := by
  refine CI.of (cc := cX11_seats) (maxL := 6) (by decide) rfl (Nat.le_of_ble_eq_true rfl) ?_
  intro p e s m args below meth c A QQ ls E hr
  obtain ⟨hx, hb, hml, hown, hts, hK, hN, hP, hD, hA, hl⟩ := E
  have hret : ∀ (pc : Nat) (H : Heap) (locs : List Loc) (ls : Array Slot) (u : Int32 × Rc), u = res → va_P D vwCl (flat [WX11 cy h0 a0 u.2]) H → va_D A (flat [WX11 cy h0 a0 u.2]) → va_S A s.heap H locs → decode cX11_seats pc = .ok (.ireturn, 1) → W p l e rmX11_seats s m args below meth c H locs 0 0 QQ (F0 m pc ls [.int u.1]) := by
    intro pc H locs ls u hu hP hD hS hd; subst hu; exact hr pc H locs ls _ rfl hP hD hS hd
  clear hr
  have hl : lv_has ls 6 [(0, .ref h0)] := hl
  have hinX11 : ∀ w ∈ wsX110, w ∈ wsX11_seats := fun _ h => List.mem_cons_of_mem _ (List.mem_append_right _ h)
  unfold fX11_seats at h
  suffices key : ∀ (H : Heap) (locs : List Loc), va_P D vwCl (flat [WX11 cy h0 a0 s0]) H → va_S A s.heap H locs → W p l e rmX11_seats s m args below meth c H locs 0 0 QQ (F0 m 0 ls []) from key _ _ hP va_S.rf
  clear hP
  intro H locs hP hS
  refine lv_aload_n hx hb dX11_seats_0 rfl (lv_at hl 0 rfl) ?_
  refine va_get (D := D) (ci := 11) (v := .ref (a0 0)) (C := RX11) (T := TX11) (N := 38) hx hb hts hinX11 hown hK hP 0 rfl rfl 0 (by decide) (hts (.fieldLink RX11 7 "KneeBenchModel" "at" "[I") (List.mem_of_getElem? (i := 1) rfl)) (fun _ h9 => h9) rfl dX11_seats_1 ?_
  refine lv_iconst (v := 0) hx hb dX11_seats_4 (by decide) ?_
  refine va_iald hx hb hK hP 1 1 rfl rfl (inb_in (by decide)) dX11_seats_5 ?_
  refine lv_topi (fun x1 ex1 => ?_)
  replace h := lt_use h x1 ex1
  refine lv_istore_n (lv' := [(1, .int x1), (0, .ref h0)]) hx hb dX11_seats_6 rfl hl (by decide) rfl (fun ls hl => ?_)
  refine lv_iload_n hx hb dX11_seats_7 rfl (lv_at hl 0 rfl) ?_
  refine lv_if_ne (tgt := 18) hx hb dX11_seats_8 (by decide) (fun c2 => ?_) (fun c2 => ?_)
  · replace h := (if_neg c2).symm.trans h
    refine lv_aload_n hx hb dX11_seats_18 rfl (lv_at hl 1 rfl) ?_
    obtain ⟨r3, hr3, h⟩ := bd_elim h
    refine ca_v (w' := [WX11 cy h0 a0 r3]) (rn_V (As := []) (rest := []) ⟨hx, hb, hml, hown, hts⟩ (kX11_laysCosts l D cy h0 a0 s0 r3 hr3 H.size) (cwV 0 hts gX11_seats_X11_laysCosts rfl rfl rfl (by decide +kernel) ⟨Nat.le_of_ble_eq_true rfl, Nat.le_of_ble_eq_true rfl⟩) hK hN hP hD [0] rfl rfl (ci := 11) (q0 := 0) rfl rfl rfl rfl hl.1 rfl (Nat.le_of_ble_eq_true rfl) dX11_seats_19 ⟨Nat.le_refl 0, Nat.le_refl 0⟩) hP hD hS hA [0] ⟨rfl, rfl, rfl, rfl⟩ (fun H locs hP hD hS => ?_)
    refine lv_ldc (v := 1000000) hx hb hown (hts (.constant RX11 191 (1000000)) (List.mem_of_getElem? (i := 2) rfl)) dX11_seats_22 ?_
    refine lv_istore_n (lv' := [(2, .int (1000000 : Int32)), (1, .int x1), (0, .ref h0)]) hx hb dX11_seats_24 rfl hl (by decide) rfl (fun ls hl => ?_)
    refine lv_iconst (v := 0) hx hb dX11_seats_25 (by decide) ?_
    refine lv_istore_n (lv' := [(3, .int (0 : Int32)), (2, .int (1000000 : Int32)), (1, .int x1), (0, .ref h0)]) hx hb dX11_seats_26 rfl hl (by decide) rfl (fun ls hl => ?_)
    have L27 : ∀ (n : Nat) (q27 : Int32 × Int32) (o : Int32), loopO (fX11_seats_L27 x1 r3) n q27 = some o → ∀ (H : Heap) (locs : List Loc) (ls : Array Slot), lv_has ls 6 [(1, .int x1), (0, .ref h0), (2, .int q27.1), (3, .int q27.2)] → va_P D vwCl (flat [WX11 cy h0 a0 r3]) H → va_D A (flat [WX11 cy h0 a0 r3]) → va_S A s.heap H locs → ∀ (kk56 : ∀ (H : Heap) (locs : List Loc) (ls : Array Slot), lv_has ls 6 [(1, .int x1), (0, .ref h0), (2, .int o)] → va_P D vwCl (flat [WX11 cy h0 a0 r3]) H → va_D A (flat [WX11 cy h0 a0 r3]) → va_S A s.heap H locs → W p l e rmX11_seats s m args below meth c H locs 0 0 QQ (F0 m 56 ls [])), W p l e rmX11_seats s m args below meth c H locs 0 0 QQ (F0 m 27 ls []) := by
      intro n
      induction n with
      | zero => intro q27 o h; exact absurd h (by rw [loopO_zero]; intro z; cases z)
      | succ n ih =>
        intro q27 o h H locs ls hl hP hD hS kk56
        obtain ⟨w, h, hgo, hst⟩ := loopO_elim h
        unfold fX11_seats_L27 at h
        refine lv_iload_n hx hb dX11_seats_27 rfl (lv_at hl 3 rfl) ?_
        refine lv_iload_n hx hb dX11_seats_28 rfl (lv_at hl 0 rfl) ?_
        refine lv_icmp_ge (tgt := 56) hx hb dX11_seats_29 (by decide) (fun c4 => ?_) (fun c4 => ?_)
        · replace h := (if_pos c4).symm.trans h
          have eo := hst _ (Option.some.inj h).symm
          subst eo
          exact kk56 H locs ls (lv_sub hl [0, 1, 2] rfl) hP hD hS
        · replace h := (if_neg c4).symm.trans h
          refine lv_iload_n hx hb dX11_seats_32 rfl (lv_at hl 2 rfl) ?_
          refine lv_aload_n hx hb dX11_seats_33 rfl (lv_at hl 1 rfl) ?_
          refine va_get (D := D) (ci := 11) (v := .ref (a0 29)) (C := RX11) (T := TX11) (N := 38) hx hb hts hinX11 hown hK hP 0 rfl rfl 29 (by decide) (hts (.fieldLink RX11 50 "KneeBenchModel" "costs" "[I") (List.mem_of_getElem? (i := 3) rfl)) (fun _ h9 => h9) rfl dX11_seats_34 ?_
          refine lv_bipush (v := 8) hx hb dX11_seats_37 (by decide) ?_
          refine lv_iconst (v := 1) hx hb dX11_seats_39 (by decide) ?_
          refine lv_iload_n hx hb dX11_seats_40 rfl (lv_at hl 3 rfl) ?_
          refine lv_ishl hx hb dX11_seats_41 ?_
          refine lv_imul hx hb dX11_seats_42 ?_
          refine lv_iload_n hx hb dX11_seats_43 rfl (lv_at hl 3 rfl) ?_
          refine lv_iadd hx hb dX11_seats_44 ?_
          obtain ⟨g5, h⟩ := gd_elim h
          refine va_iald hx hb hK hP 9 1 rfl rfl (inb_in g5) dX11_seats_45 ?_
          refine va_mmin hx hb (hml.trans hl.1.symm) hown (hts (.methodLink RX11 130 Lib.Math.min.name) (List.mem_of_getElem? (i := 4) rfl)) (hts (.static Lib.Math.min.name) (List.mem_of_getElem? (i := 5) rfl)) (hts (.initialized "java/lang/Math") (List.mem_of_getElem? (i := 6) rfl)) (hts (.code Lib.Math.min.name Lib.Math.min.code 2 (some .int)) (List.mem_of_getElem? (i := 7) rfl)) (Nat.le_of_ble_eq_true rfl) (Nat.le_of_ble_eq_true rfl) (Nat.le_refl 0) (Nat.le_refl 0) dX11_seats_46 ?_
          refine lv_topi (fun x6 ex6 => ?_)
          replace h := lt_use h x6 ex6
          refine lv_istore_n (lv' := [(2, .int x6), (1, .int x1), (0, .ref h0), (3, .int q27.2)]) hx hb dX11_seats_49 rfl hl (by decide) rfl (fun ls hl => ?_)
          refine lv_iinc (v := (q27.2 + (1 : Int32))) (lv' := [(3, .int (q27.2 + (1 : Int32))), (2, .int x6), (1, .int x1), (0, .ref h0)]) hx hb dX11_seats_50 hl (k := 3) rfl rfl (by decide) rfl (fun ls hl => ?_)
          refine lv_goto (tgt := 27) hx hb dX11_seats_53 (by decide) ?_
          exact ih _ o (hgo _ (Option.some.inj h).symm) H locs ls (lv_sub hl [2, 3, 1, 0] rfl) hP hD hS kk56
    obtain ⟨o27, ho27, h⟩ := bd_elim h
    obtain ⟨n27, hn27⟩ := loopF_some ho27
    refine L27 n27 _ o27 hn27 H locs ls (lv_sub hl [2, 3, 1, 0] rfl) hP hD hS (fun H locs ls hl hP hD hS => ?_)
    refine lv_iconst (v := 0) hx hb dX11_seats_56 (by decide) ?_
    refine lv_istore_n (lv' := [(3, .int (0 : Int32)), (1, .int x1), (0, .ref h0), (2, .int o27)]) hx hb dX11_seats_57 rfl hl (by decide) rfl (fun ls hl => ?_)
    refine lv_iload_n hx hb dX11_seats_58 rfl (lv_at hl 3 rfl) ?_
    refine lv_istore (lv' := [(4, .int o27), (3, .int (0 : Int32)), (1, .int x1), (0, .ref h0), (2, .int o27)]) hx hb dX11_seats_59 hl (by decide) rfl (fun ls hl => ?_)
    refine lv_aload_n hx hb dX11_seats_61 rfl (lv_at hl 3 rfl) ?_
    refine lv_iconst (v := 0) hx hb dX11_seats_62 (by decide) ?_
    obtain ⟨s0_7, es, h⟩ := lt_elim h
    refine va_put (D := D) (ci := 11) (v := .int (0 : Int32)) (ty := .int) (C := RX11) (T := TX11) (N := 38) hx hb hts hinX11 tyX11 tyX11_ok nmX11 hown hK hP hD hS 0 rfl rfl 31 (by decide) (hts (.fieldLink RX11 376 "KneeBenchModel" "rowMany" "I") (List.mem_of_getElem? (i := 8) rfl)) (fun _ h9 => h9) rfl (by decide +kernel) rfl rfl (Nat.le_of_ble_eq_true rfl) dX11_seats_63 (fun H locs hP hD hS => ?_)
    have hP : va_P D vwCl (flat [WX11 cy h0 a0 s0_7]) H := by rw [es]; exact hP
    have hD : va_D A (flat [WX11 cy h0 a0 s0_7]) := by rw [es]; exact hD
    clear es
    have L66 : ∀ (n : Nat) (q66 : Int32 × Int32 × Rc) (o : Rc), loopO (fX11_seats_L66 x1) n q66 = some o → ∀ (H : Heap) (locs : List Loc) (ls : Array Slot), lv_has ls 6 [(1, .int x1), (0, .ref h0), (2, .int o27), (3, .int q66.1), (4, .int q66.2.1)] → va_P D vwCl (flat [WX11 cy h0 a0 q66.2.2]) H → va_D A (flat [WX11 cy h0 a0 q66.2.2]) → va_S A s.heap H locs → ∀ (kk164 : ∀ (H : Heap) (locs : List Loc) (ls : Array Slot), lv_has ls 6 [(0, .ref h0), (2, .int o27)] → va_P D vwCl (flat [WX11 cy h0 a0 o]) H → va_D A (flat [WX11 cy h0 a0 o]) → va_S A s.heap H locs → W p l e rmX11_seats s m args below meth c H locs 0 0 QQ (F0 m 164 ls [])), W p l e rmX11_seats s m args below meth c H locs 0 0 QQ (F0 m 66 ls []) := by
      intro n
      induction n with
      | zero => intro q66 o h; exact absurd h (by rw [loopO_zero]; intro z; cases z)
      | succ n ih =>
        intro q66 o h H locs ls hl hP hD hS kk164
        obtain ⟨w, h, hgo, hst⟩ := loopO_elim h
        unfold fX11_seats_L66 at h
        refine lv_aload_n hx hb dX11_seats_66 rfl (lv_at hl 1 rfl) ?_
        refine va_get (D := D) (ci := 11) (v := .int (gi q66.2.2 31)) (C := RX11) (T := TX11) (N := 38) hx hb hts hinX11 hown hK hP 0 rfl rfl 31 (by decide) (hts (.fieldLink RX11 376 "KneeBenchModel" "rowMany" "I") (List.mem_of_getElem? (i := 8) rfl)) (fun _ h9 => h9) rfl dX11_seats_67 ?_
        refine lv_iload_n hx hb dX11_seats_70 rfl (lv_at hl 0 rfl) ?_
        refine lv_icmp_ge (tgt := 164) hx hb dX11_seats_71 (by decide) (fun c8 => ?_) (fun c8 => ?_)
        · replace h := (if_pos c8).symm.trans h
          have eo := hst _ (Option.some.inj h).symm
          subst eo
          exact kk164 H locs ls (lv_sub hl [1, 2] rfl) hP hD hS
        · replace h := (if_neg c8).symm.trans h
          refine lv_iconst (v := 0) hx hb dX11_seats_74 (by decide) ?_
          refine lv_istore (lv' := [(5, .int (0 : Int32)), (1, .int x1), (0, .ref h0), (2, .int o27), (3, .int q66.1), (4, .int q66.2.1)]) hx hb dX11_seats_75 hl (by decide) rfl (fun ls hl => ?_)
          have L77 : ∀ (n : Nat) (q77 : Int32) (o : Int32), loopO (fX11_seats_L77 q66) n q77 = some o → ∀ (H : Heap) (locs : List Loc) (ls : Array Slot), lv_has ls 6 [(1, .int x1), (0, .ref h0), (2, .int o27), (3, .int q66.1), (4, .int q66.2.1), (5, .int q77)] → va_P D vwCl (flat [WX11 cy h0 a0 q66.2.2]) H → va_D A (flat [WX11 cy h0 a0 q66.2.2]) → va_S A s.heap H locs → ∀ (kk122 : ∀ (H : Heap) (locs : List Loc) (ls : Array Slot), lv_has ls 6 [(1, .int x1), (0, .ref h0), (2, .int o27), (3, .int q66.1), (4, .int q66.2.1), (5, .int o)] → va_P D vwCl (flat [WX11 cy h0 a0 q66.2.2]) H → va_D A (flat [WX11 cy h0 a0 q66.2.2]) → va_S A s.heap H locs → W p l e rmX11_seats s m args below meth c H locs 0 0 QQ (F0 m 122 ls [])), W p l e rmX11_seats s m args below meth c H locs 0 0 QQ (F0 m 77 ls []) := by
            intro n
            induction n with
            | zero => intro q77 o h; exact absurd h (by rw [loopO_zero]; intro z; cases z)
            | succ n ih =>
              intro q77 o h H locs ls hl hP hD hS kk122
              obtain ⟨w, h, hgo, hst⟩ := loopO_elim h
              unfold fX11_seats_L77 at h
              refine lv_iload_n hx hb dX11_seats_77 rfl (lv_at hl 3 rfl) ?_
              refine lv_iload hx hb dX11_seats_78 (lv_at hl 5 rfl) ?_
              refine lv_ishr hx hb dX11_seats_80 ?_
              refine lv_iconst (v := 1) hx hb dX11_seats_81 (by decide) ?_
              refine lv_iand hx hb dX11_seats_82 ?_
              refine lv_iconst (v := 1) hx hb dX11_seats_83 (by decide) ?_
              refine lv_icmp_eq (tgt := 116) hx hb dX11_seats_84 (by decide) (fun c9 => ?_) (fun c9 => ?_)
              · replace h := (if_pos c9).symm.trans h
                refine lv_iinc (v := (q77 + (1 : Int32))) (lv' := [(5, .int (q77 + (1 : Int32))), (1, .int x1), (0, .ref h0), (2, .int o27), (3, .int q66.1), (4, .int q66.2.1)]) hx hb dX11_seats_116 hl (k := 5) rfl rfl (by decide) rfl (fun ls hl => ?_)
                refine lv_goto (tgt := 77) hx hb dX11_seats_119 (by decide) ?_
                exact ih _ o (hgo _ (Option.some.inj h).symm) H locs ls (lv_sub hl [1, 2, 3, 4, 5, 0] rfl) hP hD hS kk122
              · replace h := (if_neg c9).symm.trans h
                refine lv_aload_n hx hb dX11_seats_87 rfl (lv_at hl 1 rfl) ?_
                refine lv_iload hx hb dX11_seats_88 (lv_at hl 5 rfl) ?_
                obtain ⟨r10, hr10, h⟩ := bd_elim h
                refine ca_i (w' := [WX11 cy h0 a0 q66.2.2]) (rn_V (As := [.int q77]) (rest := []) ⟨hx, hb, hml, hown, hts⟩ (kX11_behind l D cy h0 a0 q66.2.2 q77 r10 hr10 H.size) (cwV 1 hts gX11_seats_X11_behind rfl rfl rfl (by decide +kernel) ⟨Nat.le_of_ble_eq_true rfl, Nat.le_of_ble_eq_true rfl⟩) hK hN hP hD [0] rfl rfl (ci := 11) (q0 := 0) rfl rfl rfl rfl hl.1 rfl (Nat.le_of_ble_eq_true rfl) dX11_seats_90 ⟨Nat.le_refl 0, Nat.le_refl 0⟩) hP hD hS hA [0] ⟨rfl, rfl, rfl, rfl⟩ (fun H locs hP hD hS => ?_)
                refine lv_aload_n hx hb dX11_seats_93 rfl (lv_at hl 1 rfl) ?_
                refine va_get (D := D) (ci := 11) (v := .ref (a0 29)) (C := RX11) (T := TX11) (N := 38) hx hb hts hinX11 hown hK hP 0 rfl rfl 29 (by decide) (hts (.fieldLink RX11 50 "KneeBenchModel" "costs" "[I") (List.mem_of_getElem? (i := 3) rfl)) (fun _ h9 => h9) rfl dX11_seats_94 ?_
                refine lv_bipush (v := 8) hx hb dX11_seats_97 (by decide) ?_
                refine lv_iload_n hx hb dX11_seats_99 rfl (lv_at hl 3 rfl) ?_
                refine lv_iconst (v := 1) hx hb dX11_seats_100 (by decide) ?_
                refine lv_iload hx hb dX11_seats_101 (lv_at hl 5 rfl) ?_
                refine lv_ishl hx hb dX11_seats_103 ?_
                refine lv_ior hx hb dX11_seats_104 ?_
                refine lv_imul hx hb dX11_seats_105 ?_
                refine lv_iload hx hb dX11_seats_106 (lv_at hl 5 rfl) ?_
                refine lv_iadd hx hb dX11_seats_108 ?_
                obtain ⟨g11, h⟩ := gd_elim h
                refine va_iald hx hb hK hP 9 1 rfl rfl (inb_in g11) dX11_seats_109 ?_
                refine lv_iadd hx hb dX11_seats_110 ?_
                refine lv_iload hx hb dX11_seats_111 (lv_at hl 4 rfl) ?_
                refine lv_icmp_eq (tgt := 122) hx hb dX11_seats_113 (by decide) (fun c12 => ?_) (fun c12 => ?_)
                · replace h := (if_pos c12).symm.trans h
                  have eo := hst _ (Option.some.inj h).symm
                  subst eo
                  exact kk122 H locs ls (lv_sub hl [0, 1, 2, 3, 4, 5] rfl) hP hD hS
                · replace h := (if_neg c12).symm.trans h
                  refine lv_iinc (v := (q77 + (1 : Int32))) (lv' := [(5, .int (q77 + (1 : Int32))), (1, .int x1), (0, .ref h0), (2, .int o27), (3, .int q66.1), (4, .int q66.2.1)]) hx hb dX11_seats_116 hl (k := 5) rfl rfl (by decide) rfl (fun ls hl => ?_)
                  refine lv_goto (tgt := 77) hx hb dX11_seats_119 (by decide) ?_
                  exact ih _ o (hgo _ (Option.some.inj h).symm) H locs ls (lv_sub hl [1, 2, 3, 4, 5, 0] rfl) hP hD hS kk122
          obtain ⟨o77, ho77, h⟩ := bd_elim h
          obtain ⟨n77, hn77⟩ := loopF_some ho77
          refine L77 n77 _ o77 hn77 H locs ls (lv_sub hl [1, 2, 3, 4, 5, 0] rfl) hP hD hS (fun H locs ls hl hP hD hS => ?_)
          refine lv_iload hx hb dX11_seats_122 (lv_at hl 4 rfl) ?_
          refine lv_aload_n hx hb dX11_seats_124 rfl (lv_at hl 1 rfl) ?_
          refine lv_iload hx hb dX11_seats_125 (lv_at hl 5 rfl) ?_
          obtain ⟨r13, hr13, h⟩ := bd_elim h
          refine ca_i (w' := [WX11 cy h0 a0 q66.2.2]) (rn_V (As := [.int o77]) (rest := [.int q66.2.1]) ⟨hx, hb, hml, hown, hts⟩ (kX11_behind l D cy h0 a0 q66.2.2 o77 r13 hr13 H.size) (cwV 1 hts gX11_seats_X11_behind rfl rfl rfl (by decide +kernel) ⟨Nat.le_of_ble_eq_true rfl, Nat.le_of_ble_eq_true rfl⟩) hK hN hP hD [0] rfl rfl (ci := 11) (q0 := 0) rfl rfl rfl rfl hl.1 rfl (Nat.le_of_ble_eq_true rfl) dX11_seats_127 ⟨Nat.le_refl 0, Nat.le_refl 0⟩) hP hD hS hA [0] ⟨rfl, rfl, rfl, rfl⟩ (fun H locs hP hD hS => ?_)
          refine lv_isub hx hb dX11_seats_130 ?_
          refine lv_topi (fun x14 ex14 => ?_)
          replace h := lt_use h x14 ex14
          refine lv_istore (lv' := [(4, .int x14), (1, .int x1), (0, .ref h0), (2, .int o27), (3, .int q66.1), (5, .int o77)]) hx hb dX11_seats_131 hl (by decide) rfl (fun ls hl => ?_)
          refine lv_aload_n hx hb dX11_seats_133 rfl (lv_at hl 2 rfl) ?_
          refine va_get (D := D) (ci := 11) (v := .ref (a0 30)) (C := RX11) (T := TX11) (N := 38) hx hb hts hinX11 hown hK hP 0 rfl rfl 30 (by decide) (hts (.fieldLink RX11 53 "KneeBenchModel" "row" "[I") (List.mem_of_getElem? (i := 9) rfl)) (fun _ h9 => h9) rfl dX11_seats_134 ?_
          refine lv_aload_n hx hb dX11_seats_137 rfl (lv_at hl 2 rfl) ?_
          refine va_get (D := D) (ci := 11) (v := .int (gi q66.2.2 31)) (C := RX11) (T := TX11) (N := 38) hx hb hts hinX11 hown hK hP 0 rfl rfl 31 (by decide) (hts (.fieldLink RX11 376 "KneeBenchModel" "rowMany" "I") (List.mem_of_getElem? (i := 8) rfl)) (fun _ h9 => h9) rfl dX11_seats_138 ?_
          refine lv_iload hx hb dX11_seats_141 (lv_at hl 5 rfl) ?_
          obtain ⟨g15, h⟩ := gd_elim h
          obtain ⟨s0_16, es, h⟩ := lt_elim h
          refine va_iast hx hb hK hP hD hS 10 1 rfl rfl (inb_in g15) dX11_seats_143 (fun H locs hP hD hS => ?_)
          have hP : va_P D vwCl (flat [WX11 cy h0 a0 s0_16]) H := by rw [es]; exact hP
          have hD : va_D A (flat [WX11 cy h0 a0 s0_16]) := by rw [es]; exact hD
          clear es
          refine lv_aload_n hx hb dX11_seats_144 rfl (lv_at hl 2 rfl) ?_
          refine lv_dup hx hb dX11_seats_145 rfl ?_
          refine va_get (D := D) (ci := 11) (v := .int (gi s0_16 31)) (C := RX11) (T := TX11) (N := 38) hx hb hts hinX11 hown hK hP 0 rfl rfl 31 (by decide) (hts (.fieldLink RX11 376 "KneeBenchModel" "rowMany" "I") (List.mem_of_getElem? (i := 8) rfl)) (fun _ h9 => h9) rfl dX11_seats_146 ?_
          refine lv_iconst (v := 1) hx hb dX11_seats_149 (by decide) ?_
          refine lv_iadd hx hb dX11_seats_150 ?_
          obtain ⟨s0_17, es, h⟩ := lt_elim h
          refine va_put (D := D) (ci := 11) (v := .int ((gi s0_16 31) + (1 : Int32))) (ty := .int) (C := RX11) (T := TX11) (N := 38) hx hb hts hinX11 tyX11 tyX11_ok nmX11 hown hK hP hD hS 0 rfl rfl 31 (by decide) (hts (.fieldLink RX11 376 "KneeBenchModel" "rowMany" "I") (List.mem_of_getElem? (i := 8) rfl)) (fun _ h9 => h9) rfl (by decide +kernel) rfl rfl (Nat.le_of_ble_eq_true rfl) dX11_seats_151 (fun H locs hP hD hS => ?_)
          have hP : va_P D vwCl (flat [WX11 cy h0 a0 s0_17]) H := by rw [es]; exact hP
          have hD : va_D A (flat [WX11 cy h0 a0 s0_17]) := by rw [es]; exact hD
          clear es
          refine lv_iload_n hx hb dX11_seats_154 rfl (lv_at hl 4 rfl) ?_
          refine lv_iconst (v := 1) hx hb dX11_seats_155 (by decide) ?_
          refine lv_iload hx hb dX11_seats_156 (lv_at hl 5 rfl) ?_
          refine lv_ishl hx hb dX11_seats_158 ?_
          refine lv_ior hx hb dX11_seats_159 ?_
          refine lv_topi (fun x18 ex18 => ?_)
          replace h := lt_use h x18 ex18
          refine lv_istore_n (lv' := [(3, .int x18), (4, .int x14), (1, .int x1), (0, .ref h0), (2, .int o27), (5, .int o77)]) hx hb dX11_seats_160 rfl hl (by decide) rfl (fun ls hl => ?_)
          refine lv_goto (tgt := 66) hx hb dX11_seats_161 (by decide) ?_
          exact ih _ o (hgo _ (Option.some.inj h).symm) H locs ls (lv_sub hl [2, 3, 4, 0, 1] rfl) hP hD hS kk164
    obtain ⟨o66, ho66, h⟩ := bd_elim h
    obtain ⟨n66, hn66⟩ := loopF_some ho66
    refine L66 n66 _ o66 hn66 H locs ls (lv_sub hl [2, 3, 4, 1, 0] rfl) hP hD hS (fun H locs ls hl hP hD hS => ?_)
    refine lv_aload_n hx hb dX11_seats_164 rfl (lv_at hl 0 rfl) ?_
    refine lv_iload_n hx hb dX11_seats_165 rfl (lv_at hl 1 rfl) ?_
    obtain ⟨r19, hr19, h⟩ := lt_elim h
    refine ca_i (w' := [WX11 cy h0 a0 r19.2]) (rn_V (As := [.int o27]) (rest := []) ⟨hx, hb, hml, hown, hts⟩ (kX11_gives l D cy h0 a0 o66 o27 r19 hr19.symm H.size) (cwV 1 hts gX11_seats_X11_gives rfl rfl rfl (by decide +kernel) ⟨Nat.le_of_ble_eq_true rfl, Nat.le_of_ble_eq_true rfl⟩) hK hN hP hD [0] rfl rfl (ci := 11) (q0 := 0) rfl rfl rfl rfl hl.1 rfl (Nat.le_of_ble_eq_true rfl) dX11_seats_166 ⟨Nat.le_refl 0, Nat.le_refl 0⟩) hP hD hS hA [0] ⟨rfl, rfl, rfl, rfl⟩ (fun H locs hP hD hS => ?_)
    exact hret 169 H locs ls (r19.1, r19.2) (Option.some.inj h) hP hD hS dX11_seats_169
  · replace h := (if_pos c2).symm.trans h
    refine lv_aload_n hx hb dX11_seats_11 rfl (lv_at hl 1 rfl) ?_
    refine lv_bipush (v := 6) hx hb dX11_seats_12 (by decide) ?_
    obtain ⟨r20, hr20, h⟩ := lt_elim h
    refine ca_i (w' := [WX11 cy h0 a0 r20.2]) (rn_V (As := [.int (6 : Int32)]) (rest := []) ⟨hx, hb, hml, hown, hts⟩ (kX11_refuse l D cy h0 a0 s0 (6 : Int32) r20 hr20.symm H.size) (cwV 1 hts gX11_seats_X11_refuse rfl rfl rfl (by decide +kernel) ⟨Nat.le_of_ble_eq_true rfl, Nat.le_of_ble_eq_true rfl⟩) hK hN hP hD [0] rfl rfl (ci := 11) (q0 := 0) rfl rfl rfl rfl hl.1 rfl (Nat.le_of_ble_eq_true rfl) dX11_seats_14 ⟨Nat.le_refl 0, Nat.le_refl 0⟩) hP hD hS hA [0] ⟨rfl, rfl, rfl, rfl⟩ (fun H locs hP hD hS => ?_)
    exact hret 17 H locs ls (r20.1, r20.2) (Option.some.inj h) hP hD hS dX11_seats_17
theorem gd_X11_should : wsX11_should.all goodWord = true := by decide +kernel
set_option maxRecDepth 20000 in
theorem ggX11_should_X11_isIn : GoodIn wsX11_should wsX11_isIn := goodIn_by gd_X11_should (List.forall_mem_cons.mpr ⟨List.mem_cons_of_mem _ (List.mem_append_left _ (List.mem_append_left _ (List.mem_of_getElem? (i := 4) rfl))), List.forall_mem_append.mpr ⟨List.forall_mem_cons.mpr ⟨List.mem_cons_of_mem _ (List.mem_append_left _ (List.mem_append_left _ (List.mem_of_getElem? (i := 5) rfl))), List.forall_mem_cons.mpr ⟨List.mem_cons_of_mem _ (List.mem_append_left _ (List.mem_append_left _ (List.mem_of_getElem? (i := 6) rfl))), List.forall_mem_cons.mpr ⟨List.mem_cons_of_mem _ (List.mem_append_left _ (List.mem_append_left _ (List.mem_of_getElem? (i := 7) rfl))), List.forall_mem_cons.mpr ⟨List.mem_cons_of_mem _ (List.mem_append_left _ (List.mem_append_left _ (List.mem_of_getElem? (i := 3) rfl))), List.forall_mem_cons.mpr ⟨List.mem_cons_of_mem _ (List.mem_append_left _ (List.mem_append_left _ (List.mem_of_getElem? (i := 8) rfl))), List.forall_mem_cons.mpr ⟨List.mem_cons_of_mem _ (List.mem_append_left _ (List.mem_append_left _ (List.mem_of_getElem? (i := 9) rfl))), List.forall_mem_cons.mpr ⟨List.mem_cons_of_mem _ (List.mem_append_left _ (List.mem_append_left _ (List.mem_of_getElem? (i := 10) rfl))), List.forall_mem_cons.mpr ⟨List.mem_cons_of_mem _ (List.mem_append_left _ (List.mem_append_left _ (List.mem_of_getElem? (i := 11) rfl))), List.forall_mem_cons.mpr ⟨List.mem_cons_of_mem _ (List.mem_append_left _ (List.mem_append_left _ (List.mem_of_getElem? (i := 12) rfl))), List.forall_mem_cons.mpr ⟨List.mem_cons_of_mem _ (List.mem_append_left _ (List.mem_append_left _ (List.mem_of_getElem? (i := 13) rfl))), nowords_in⟩⟩⟩⟩⟩⟩⟩⟩⟩⟩, (fun _ h => List.mem_cons_of_mem _ (List.mem_append_right _ (h)))⟩⟩)
set_option maxRecDepth 20000 in
theorem gX11_should_X11_isIn : GoodIn wsX11_should (wsV RX11 270 RX11 yX11_isIn wsX11_isIn) := goodIn_app (goodIn_by gd_X11_should (List.forall_mem_cons.mpr ⟨List.mem_cons_of_mem _ (List.mem_append_left _ (List.mem_append_left _ (List.mem_of_getElem? (i := 0) rfl))), List.forall_mem_cons.mpr ⟨List.mem_cons_of_mem _ (List.mem_append_left _ (List.mem_append_left _ (List.mem_of_getElem? (i := 1) rfl))), List.forall_mem_cons.mpr ⟨List.mem_cons_of_mem _ (List.mem_append_left _ (List.mem_append_left _ (List.mem_of_getElem? (i := 2) rfl))), List.forall_mem_cons.mpr ⟨List.mem_cons_of_mem _ (List.mem_append_left _ (List.mem_append_left _ (List.mem_of_getElem? (i := 3) rfl))), nowords_in⟩⟩⟩⟩)) ggX11_should_X11_isIn
set_option maxRecDepth 20000 in
theorem ggX11_should_X11_shouldFeel : GoodIn wsX11_should wsX11_shouldFeel := goodIn_by gd_X11_should (List.forall_mem_cons.mpr ⟨List.mem_cons_of_mem _ (List.mem_append_left _ (List.mem_append_left _ (List.mem_of_getElem? (i := 17) rfl))), List.forall_mem_append.mpr ⟨List.forall_mem_cons.mpr ⟨List.mem_cons_of_mem _ (List.mem_append_left _ (List.mem_append_left _ (List.mem_of_getElem? (i := 18) rfl))), List.forall_mem_cons.mpr ⟨List.mem_cons_of_mem _ (List.mem_append_left _ (List.mem_append_left _ (List.mem_of_getElem? (i := 19) rfl))), List.forall_mem_cons.mpr ⟨List.mem_cons_of_mem _ (List.mem_append_left _ (List.mem_append_left _ (List.mem_of_getElem? (i := 20) rfl))), List.forall_mem_cons.mpr ⟨List.mem_cons_of_mem _ (List.mem_append_left _ (List.mem_append_left _ (List.mem_of_getElem? (i := 3) rfl))), List.forall_mem_cons.mpr ⟨List.mem_cons_of_mem _ (List.mem_append_left _ (List.mem_append_left _ (List.mem_of_getElem? (i := 21) rfl))), List.forall_mem_cons.mpr ⟨List.mem_cons_of_mem _ (List.mem_append_left _ (List.mem_append_left _ (List.mem_of_getElem? (i := 9) rfl))), List.forall_mem_cons.mpr ⟨List.mem_cons_of_mem _ (List.mem_append_left _ (List.mem_append_left _ (List.mem_of_getElem? (i := 22) rfl))), List.forall_mem_cons.mpr ⟨List.mem_cons_of_mem _ (List.mem_append_left _ (List.mem_append_left _ (List.mem_of_getElem? (i := 23) rfl))), List.forall_mem_cons.mpr ⟨List.mem_cons_of_mem _ (List.mem_append_left _ (List.mem_append_right _ (List.mem_of_getElem? (i := 0) rfl))), List.forall_mem_cons.mpr ⟨List.mem_cons_of_mem _ (List.mem_append_left _ (List.mem_append_left _ (List.mem_of_getElem? (i := 10) rfl))), List.forall_mem_cons.mpr ⟨List.mem_cons_of_mem _ (List.mem_append_left _ (List.mem_append_left _ (List.mem_of_getElem? (i := 11) rfl))), List.forall_mem_cons.mpr ⟨List.mem_cons_of_mem _ (List.mem_append_left _ (List.mem_append_left _ (List.mem_of_getElem? (i := 12) rfl))), List.forall_mem_cons.mpr ⟨List.mem_cons_of_mem _ (List.mem_append_left _ (List.mem_append_left _ (List.mem_of_getElem? (i := 13) rfl))), List.forall_mem_cons.mpr ⟨List.mem_cons_of_mem _ (List.mem_append_left _ (List.mem_append_right _ (List.mem_of_getElem? (i := 1) rfl))), List.forall_mem_cons.mpr ⟨List.mem_cons_of_mem _ (List.mem_append_left _ (List.mem_append_right _ (List.mem_of_getElem? (i := 2) rfl))), List.forall_mem_cons.mpr ⟨List.mem_cons_of_mem _ (List.mem_append_left _ (List.mem_append_right _ (List.mem_of_getElem? (i := 3) rfl))), List.forall_mem_cons.mpr ⟨List.mem_cons_of_mem _ (List.mem_append_left _ (List.mem_append_right _ (List.mem_of_getElem? (i := 4) rfl))), List.forall_mem_cons.mpr ⟨List.mem_cons_of_mem _ (List.mem_append_left _ (List.mem_append_right _ (List.mem_of_getElem? (i := 5) rfl))), List.forall_mem_cons.mpr ⟨List.mem_cons_of_mem _ (List.mem_append_left _ (List.mem_append_right _ (List.mem_of_getElem? (i := 6) rfl))), List.forall_mem_cons.mpr ⟨List.mem_cons_of_mem _ (List.mem_append_left _ (List.mem_append_right _ (List.mem_of_getElem? (i := 7) rfl))), List.forall_mem_cons.mpr ⟨List.mem_cons_of_mem _ (List.mem_append_left _ (List.mem_append_right _ (List.mem_of_getElem? (i := 8) rfl))), nowords_in⟩⟩⟩⟩⟩⟩⟩⟩⟩⟩⟩⟩⟩⟩⟩⟩⟩⟩⟩⟩⟩, (fun _ h => List.mem_cons_of_mem _ (List.mem_append_right _ (h)))⟩⟩)
set_option maxRecDepth 20000 in
theorem gX11_should_X11_shouldFeel : GoodIn wsX11_should (wsV RX11 228 RX11 yX11_shouldFeel wsX11_shouldFeel) := goodIn_app (goodIn_by gd_X11_should (List.forall_mem_cons.mpr ⟨List.mem_cons_of_mem _ (List.mem_append_left _ (List.mem_append_left _ (List.mem_of_getElem? (i := 14) rfl))), List.forall_mem_cons.mpr ⟨List.mem_cons_of_mem _ (List.mem_append_left _ (List.mem_append_left _ (List.mem_of_getElem? (i := 15) rfl))), List.forall_mem_cons.mpr ⟨List.mem_cons_of_mem _ (List.mem_append_left _ (List.mem_append_left _ (List.mem_of_getElem? (i := 16) rfl))), List.forall_mem_cons.mpr ⟨List.mem_cons_of_mem _ (List.mem_append_left _ (List.mem_append_left _ (List.mem_of_getElem? (i := 3) rfl))), nowords_in⟩⟩⟩⟩)) ggX11_should_X11_shouldFeel
set_option maxRecDepth 20000 in
theorem ggX11_should_X11_gives : GoodIn wsX11_should wsX11_gives := goodIn_by gd_X11_should (List.forall_mem_cons.mpr ⟨List.mem_cons_of_mem _ (List.mem_append_left _ (List.mem_append_right _ (List.mem_of_getElem? (i := 12) rfl))), List.forall_mem_append.mpr ⟨List.forall_mem_cons.mpr ⟨List.mem_cons_of_mem _ (List.mem_append_left _ (List.mem_append_right _ (List.mem_of_getElem? (i := 13) rfl))), nowords_in⟩, (fun _ h => List.mem_cons_of_mem _ (List.mem_append_right _ (h)))⟩⟩)
set_option maxRecDepth 20000 in
theorem gX11_should_X11_gives : GoodIn wsX11_should (wsV RX11 79 RX11 yX11_gives wsX11_gives) := goodIn_app (goodIn_by gd_X11_should (List.forall_mem_cons.mpr ⟨List.mem_cons_of_mem _ (List.mem_append_left _ (List.mem_append_right _ (List.mem_of_getElem? (i := 9) rfl))), List.forall_mem_cons.mpr ⟨List.mem_cons_of_mem _ (List.mem_append_left _ (List.mem_append_right _ (List.mem_of_getElem? (i := 10) rfl))), List.forall_mem_cons.mpr ⟨List.mem_cons_of_mem _ (List.mem_append_left _ (List.mem_append_right _ (List.mem_of_getElem? (i := 11) rfl))), List.forall_mem_cons.mpr ⟨List.mem_cons_of_mem _ (List.mem_append_left _ (List.mem_append_left _ (List.mem_of_getElem? (i := 3) rfl))), nowords_in⟩⟩⟩⟩)) ggX11_should_X11_gives
set_option maxRecDepth 20000 in
theorem ggX11_should_X11_refuse : GoodIn wsX11_should wsX11_refuse := goodIn_by gd_X11_should (List.forall_mem_cons.mpr ⟨List.mem_cons_of_mem _ (List.mem_append_left _ (List.mem_append_right _ (List.mem_of_getElem? (i := 17) rfl))), List.forall_mem_append.mpr ⟨List.forall_mem_cons.mpr ⟨List.mem_cons_of_mem _ (List.mem_append_left _ (List.mem_append_right _ (List.mem_of_getElem? (i := 13) rfl))), nowords_in⟩, (fun _ h => List.mem_cons_of_mem _ (List.mem_append_right _ (h)))⟩⟩)
set_option maxRecDepth 20000 in
theorem gX11_should_X11_refuse : GoodIn wsX11_should (wsV RX11 75 RX11 yX11_refuse wsX11_refuse) := goodIn_app (goodIn_by gd_X11_should (List.forall_mem_cons.mpr ⟨List.mem_cons_of_mem _ (List.mem_append_left _ (List.mem_append_right _ (List.mem_of_getElem? (i := 14) rfl))), List.forall_mem_cons.mpr ⟨List.mem_cons_of_mem _ (List.mem_append_left _ (List.mem_append_right _ (List.mem_of_getElem? (i := 15) rfl))), List.forall_mem_cons.mpr ⟨List.mem_cons_of_mem _ (List.mem_append_left _ (List.mem_append_right _ (List.mem_of_getElem? (i := 16) rfl))), List.forall_mem_cons.mpr ⟨List.mem_cons_of_mem _ (List.mem_append_left _ (List.mem_append_left _ (List.mem_of_getElem? (i := 3) rfl))), nowords_in⟩⟩⟩⟩)) ggX11_should_X11_refuse
theorem dX11_should_0 : decode cX11_should 0 = .ok (.aload_n 0, 1) := by decide +kernel
theorem dX11_should_1 : decode cX11_should 1 = .ok (.iload_n 1, 1) := by decide +kernel
theorem dX11_should_2 : decode cX11_should 2 = .ok (.iload_n 2, 1) := by decide +kernel
theorem dX11_should_3 : decode cX11_should 3 = .ok (.invokevirtual 270, 3) := by decide +kernel
theorem dX11_should_6 : decode cX11_should 6 = .ok (.ifCond .eq 24, 3) := by decide +kernel
theorem dX11_should_9 : decode cX11_should 9 = .ok (.aload_n 0, 1) := by decide +kernel
theorem dX11_should_10 : decode cX11_should 10 = .ok (.aload_n 0, 1) := by decide +kernel
theorem dX11_should_11 : decode cX11_should 11 = .ok (.iload_n 1, 1) := by decide +kernel
theorem dX11_should_12 : decode cX11_should 12 = .ok (.iload_n 2, 1) := by decide +kernel
theorem dX11_should_13 : decode cX11_should 13 = .ok (.invokevirtual 228, 3) := by decide +kernel
theorem dX11_should_16 : decode cX11_should 16 = .ok (.ifCond .eq 7, 3) := by decide +kernel
theorem dX11_should_19 : decode cX11_should 19 = .ok (.iconst 1, 1) := by decide +kernel
theorem dX11_should_20 : decode cX11_should 20 = .ok (.goto 4, 3) := by decide +kernel
theorem dX11_should_23 : decode cX11_should 23 = .ok (.iconst 0, 1) := by decide +kernel
theorem dX11_should_24 : decode cX11_should 24 = .ok (.invokevirtual 79, 3) := by decide +kernel
theorem dX11_should_27 : decode cX11_should 27 = .ok (.goto 8, 3) := by decide +kernel
theorem dX11_should_30 : decode cX11_should 30 = .ok (.aload_n 0, 1) := by decide +kernel
theorem dX11_should_31 : decode cX11_should 31 = .ok (.iconst 1, 1) := by decide +kernel
theorem dX11_should_32 : decode cX11_should 32 = .ok (.invokevirtual 75, 3) := by decide +kernel
theorem dX11_should_35 : decode cX11_should 35 = .ok (.ireturn, 1) := by decide +kernel
abbrev rmX11_should : Room := { frames := 3, cells := 0, slots := 0, locals := 65 }
set_option maxHeartbeats 4000000 in
set_option maxRecDepth 100000 in
theorem kX11_should (l : Launch) (D : va_G) (cy : Nat → ClassId) (h0 : Nat) (a0 : Nat → Nat) (s0 : Rc) (p1 : Int32) (p2 : Int32) (res : Int32 × Rc) (h : fX11_should p1 p2 s0 = some res) : CI l D cy yX11_should wsX11_should rmX11_should [.ref h0, .int p1, .int p2] (flat [WX11 cy h0 a0 s0]) (flat [WX11 cy h0 a0 res.2]) res.1 := by
  refine CI.of (cc := cX11_should) (maxL := 3) (by decide) rfl (Nat.le_of_ble_eq_true rfl) ?_
  intro p e s m args below meth c A QQ ls E hr
  obtain ⟨hx, hb, hml, hown, hts, hK, hN, hP, hD, hA, hl⟩ := E
  have hret : ∀ (pc : Nat) (H : Heap) (locs : List Loc) (ls : Array Slot) (u : Int32 × Rc), u = res → va_P D vwCl (flat [WX11 cy h0 a0 u.2]) H → va_D A (flat [WX11 cy h0 a0 u.2]) → va_S A s.heap H locs → decode cX11_should pc = .ok (.ireturn, 1) → W p l e rmX11_should s m args below meth c H locs 0 0 QQ (F0 m pc ls [.int u.1]) := by
    intro pc H locs ls u hu hP hD hS hd; subst hu; exact hr pc H locs ls _ rfl hP hD hS hd
  clear hr
  have hl : lv_has ls 3 [(0, .ref h0), (1, .int p1), (2, .int p2)] := hl
  unfold fX11_should at h
  suffices key : ∀ (H : Heap) (locs : List Loc), va_P D vwCl (flat [WX11 cy h0 a0 s0]) H → va_S A s.heap H locs → W p l e rmX11_should s m args below meth c H locs 0 0 QQ (F0 m 0 ls []) from key _ _ hP va_S.rf
  clear hP
  intro H locs hP hS
  refine lv_aload_n hx hb dX11_should_0 rfl (lv_at hl 0 rfl) ?_
  refine lv_iload_n hx hb dX11_should_1 rfl (lv_at hl 1 rfl) ?_
  refine lv_iload_n hx hb dX11_should_2 rfl (lv_at hl 2 rfl) ?_
  refine ca_z (w' := [WX11 cy h0 a0 s0]) (rn_V (As := [.int p1, .int p2]) (rest := []) ⟨hx, hb, hml, hown, hts⟩ (kX11_isIn l D cy h0 a0 s0 p1 p2 _ rfl H.size) (cwV 2 hts gX11_should_X11_isIn rfl rfl rfl (by decide +kernel) ⟨Nat.le_of_ble_eq_true rfl, Nat.le_of_ble_eq_true rfl⟩) hK hN hP hD [0] rfl rfl (ci := 11) (q0 := 0) rfl rfl rfl rfl hl.1 rfl (Nat.le_of_ble_eq_true rfl) dX11_should_3 ⟨Nat.le_refl 0, Nat.le_refl 0⟩) hP hD hS hA [0] ⟨rfl, rfl, rfl, rfl⟩ (fun b1 H locs hP hD hS => ?_)
  refine lv_if_eq (tgt := 30) hx hb dX11_should_6 (by decide) (fun c2 => ?_) (fun c2 => ?_)
  · replace h := (if_pos c2).symm.trans h
    refine lv_aload_n hx hb dX11_should_30 rfl (lv_at hl 0 rfl) ?_
    refine lv_iconst (v := 1) hx hb dX11_should_31 (by decide) ?_
    obtain ⟨r3, hr3, h⟩ := lt_elim h
    refine ca_i (w' := [WX11 cy h0 a0 r3.2]) (rn_V (As := [.int (1 : Int32)]) (rest := []) ⟨hx, hb, hml, hown, hts⟩ (kX11_refuse l D cy h0 a0 s0 (1 : Int32) r3 hr3.symm H.size) (cwV 1 hts gX11_should_X11_refuse rfl rfl rfl (by decide +kernel) ⟨Nat.le_of_ble_eq_true rfl, Nat.le_of_ble_eq_true rfl⟩) hK hN hP hD [0] rfl rfl (ci := 11) (q0 := 0) rfl rfl rfl rfl hl.1 rfl (Nat.le_of_ble_eq_true rfl) dX11_should_32 ⟨Nat.le_refl 0, Nat.le_refl 0⟩) hP hD hS hA [0] ⟨rfl, rfl, rfl, rfl⟩ (fun H locs hP hD hS => ?_)
    exact hret 35 H locs ls (r3.1, r3.2) (Option.some.inj h) hP hD hS dX11_should_35
  · replace h := (if_neg c2).symm.trans h
    refine lv_aload_n hx hb dX11_should_9 rfl (lv_at hl 0 rfl) ?_
    refine lv_aload_n hx hb dX11_should_10 rfl (lv_at hl 0 rfl) ?_
    refine lv_iload_n hx hb dX11_should_11 rfl (lv_at hl 1 rfl) ?_
    refine lv_iload_n hx hb dX11_should_12 rfl (lv_at hl 2 rfl) ?_
    obtain ⟨r4, hr4, h⟩ := bd_elim h
    refine ca_z (w' := [WX11 cy h0 a0 s0]) (rn_V (As := [.int p1, .int p2]) (rest := [.ref h0]) ⟨hx, hb, hml, hown, hts⟩ (kX11_shouldFeel l D cy h0 a0 s0 p1 p2 r4 hr4 H.size) (cwV 2 hts gX11_should_X11_shouldFeel rfl rfl rfl (by decide +kernel) ⟨Nat.le_of_ble_eq_true rfl, Nat.le_of_ble_eq_true rfl⟩) hK hN hP hD [0] rfl rfl (ci := 11) (q0 := 0) rfl rfl rfl rfl hl.1 rfl (Nat.le_of_ble_eq_true rfl) dX11_should_13 ⟨Nat.le_refl 0, Nat.le_refl 0⟩) hP hD hS hA [0] ⟨rfl, rfl, rfl, rfl⟩ (fun b5 H locs hP hD hS => ?_)
    refine lv_if_eq (tgt := 23) hx hb dX11_should_16 (by decide) (fun c6 => ?_) (fun c6 => ?_)
    · replace h := (if_pos c6).symm.trans h
      refine lv_iconst (v := 0) hx hb dX11_should_23 (by decide) ?_
      obtain ⟨r7, hr7, h⟩ := lt_elim h
      refine ca_i (w' := [WX11 cy h0 a0 r7.2]) (rn_V (As := [.int (0 : Int32)]) (rest := []) ⟨hx, hb, hml, hown, hts⟩ (kX11_gives l D cy h0 a0 s0 (0 : Int32) r7 hr7.symm H.size) (cwV 1 hts gX11_should_X11_gives rfl rfl rfl (by decide +kernel) ⟨Nat.le_of_ble_eq_true rfl, Nat.le_of_ble_eq_true rfl⟩) hK hN hP hD [0] rfl rfl (ci := 11) (q0 := 0) rfl rfl rfl rfl hl.1 rfl (Nat.le_of_ble_eq_true rfl) dX11_should_24 ⟨Nat.le_refl 0, Nat.le_refl 0⟩) hP hD hS hA [0] ⟨rfl, rfl, rfl, rfl⟩ (fun H locs hP hD hS => ?_)
      refine lv_goto (tgt := 35) hx hb dX11_should_27 (by decide) ?_
      exact hret 35 H locs ls (r7.1, r7.2) (Option.some.inj h) hP hD hS dX11_should_35
    · replace h := (if_neg c6).symm.trans h
      refine lv_iconst (v := 1) hx hb dX11_should_19 (by decide) ?_
      refine lv_goto (tgt := 24) hx hb dX11_should_20 (by decide) ?_
      obtain ⟨r8, hr8, h⟩ := lt_elim h
      refine ca_i (w' := [WX11 cy h0 a0 r8.2]) (rn_V (As := [.int (1 : Int32)]) (rest := []) ⟨hx, hb, hml, hown, hts⟩ (kX11_gives l D cy h0 a0 s0 (1 : Int32) r8 hr8.symm H.size) (cwV 1 hts gX11_should_X11_gives rfl rfl rfl (by decide +kernel) ⟨Nat.le_of_ble_eq_true rfl, Nat.le_of_ble_eq_true rfl⟩) hK hN hP hD [0] rfl rfl (ci := 11) (q0 := 0) rfl rfl rfl rfl hl.1 rfl (Nat.le_of_ble_eq_true rfl) dX11_should_24 ⟨Nat.le_refl 0, Nat.le_refl 0⟩) hP hD hS hA [0] ⟨rfl, rfl, rfl, rfl⟩ (fun H locs hP hD hS => ?_)
      refine lv_goto (tgt := 35) hx hb dX11_should_27 (by decide) ?_
      exact hret 35 H locs ls (r8.1, r8.2) (Option.some.inj h) hP hD hS dX11_should_35
theorem gd_X11_silent : wsX11_silent.all goodWord = true := by decide +kernel
set_option maxRecDepth 20000 in
theorem ggX11_silent_X11_sayOf : GoodIn wsX11_silent wsX11_sayOf := goodIn_by gd_X11_silent (List.forall_mem_cons.mpr ⟨List.mem_cons_of_mem _ (List.mem_append_left _ (List.mem_append_left _ (List.mem_of_getElem? (i := 5) rfl))), List.forall_mem_append.mpr ⟨List.forall_mem_append.mpr ⟨List.forall_mem_cons.mpr ⟨List.mem_cons_of_mem _ (List.mem_append_left _ (List.mem_append_left _ (List.mem_of_getElem? (i := 0) rfl))), List.forall_mem_cons.mpr ⟨List.mem_cons_of_mem _ (List.mem_append_left _ (List.mem_append_left _ (List.mem_of_getElem? (i := 6) rfl))), List.forall_mem_cons.mpr ⟨List.mem_cons_of_mem _ (List.mem_append_left _ (List.mem_append_left _ (List.mem_of_getElem? (i := 7) rfl))), List.forall_mem_cons.mpr ⟨List.mem_cons_of_mem _ (List.mem_append_left _ (List.mem_append_left _ (List.mem_of_getElem? (i := 8) rfl))), List.forall_mem_cons.mpr ⟨List.mem_cons_of_mem _ (List.mem_append_left _ (List.mem_append_left _ (List.mem_of_getElem? (i := 4) rfl))), List.forall_mem_cons.mpr ⟨List.mem_cons_of_mem _ (List.mem_append_left _ (List.mem_append_left _ (List.mem_of_getElem? (i := 9) rfl))), List.forall_mem_cons.mpr ⟨List.mem_cons_of_mem _ (List.mem_append_left _ (List.mem_append_left _ (List.mem_of_getElem? (i := 10) rfl))), List.forall_mem_cons.mpr ⟨List.mem_cons_of_mem _ (List.mem_append_left _ (List.mem_append_left _ (List.mem_of_getElem? (i := 11) rfl))), List.forall_mem_cons.mpr ⟨List.mem_cons_of_mem _ (List.mem_append_left _ (List.mem_append_left _ (List.mem_of_getElem? (i := 12) rfl))), List.forall_mem_cons.mpr ⟨List.mem_cons_of_mem _ (List.mem_append_left _ (List.mem_append_left _ (List.mem_of_getElem? (i := 13) rfl))), List.forall_mem_cons.mpr ⟨List.mem_cons_of_mem _ (List.mem_append_left _ (List.mem_append_left _ (List.mem_of_getElem? (i := 14) rfl))), List.forall_mem_cons.mpr ⟨List.mem_cons_of_mem _ (List.mem_append_left _ (List.mem_append_left _ (List.mem_of_getElem? (i := 15) rfl))), List.forall_mem_cons.mpr ⟨List.mem_cons_of_mem _ (List.mem_append_left _ (List.mem_append_left _ (List.mem_of_getElem? (i := 16) rfl))), List.forall_mem_cons.mpr ⟨List.mem_cons_of_mem _ (List.mem_append_left _ (List.mem_append_left _ (List.mem_of_getElem? (i := 17) rfl))), List.forall_mem_cons.mpr ⟨List.mem_cons_of_mem _ (List.mem_append_left _ (List.mem_append_left _ (List.mem_of_getElem? (i := 18) rfl))), List.forall_mem_cons.mpr ⟨List.mem_cons_of_mem _ (List.mem_append_left _ (List.mem_append_left _ (List.mem_of_getElem? (i := 19) rfl))), List.forall_mem_cons.mpr ⟨List.mem_cons_of_mem _ (List.mem_append_left _ (List.mem_append_left _ (List.mem_of_getElem? (i := 20) rfl))), List.forall_mem_cons.mpr ⟨List.mem_cons_of_mem _ (List.mem_append_left _ (List.mem_append_left _ (List.mem_of_getElem? (i := 21) rfl))), List.forall_mem_cons.mpr ⟨List.mem_cons_of_mem _ (List.mem_append_left _ (List.mem_append_left _ (List.mem_of_getElem? (i := 22) rfl))), List.forall_mem_cons.mpr ⟨List.mem_cons_of_mem _ (List.mem_append_left _ (List.mem_append_left _ (List.mem_of_getElem? (i := 23) rfl))), List.forall_mem_cons.mpr ⟨List.mem_cons_of_mem _ (List.mem_append_left _ (List.mem_append_right _ (List.mem_of_getElem? (i := 0) rfl))), List.forall_mem_cons.mpr ⟨List.mem_cons_of_mem _ (List.mem_append_left _ (List.mem_append_right _ (List.mem_of_getElem? (i := 1) rfl))), List.forall_mem_cons.mpr ⟨List.mem_cons_of_mem _ (List.mem_append_left _ (List.mem_append_right _ (List.mem_of_getElem? (i := 2) rfl))), List.forall_mem_cons.mpr ⟨List.mem_cons_of_mem _ (List.mem_append_left _ (List.mem_append_right _ (List.mem_of_getElem? (i := 3) rfl))), nowords_in⟩⟩⟩⟩⟩⟩⟩⟩⟩⟩⟩⟩⟩⟩⟩⟩⟩⟩⟩⟩⟩⟩⟩⟩, List.forall_mem_cons.mpr ⟨List.mem_cons_of_mem _ (List.mem_append_left _ (List.mem_append_right _ (List.mem_of_getElem? (i := 4) rfl))), List.forall_mem_cons.mpr ⟨List.mem_cons_of_mem _ (List.mem_append_left _ (List.mem_append_right _ (List.mem_of_getElem? (i := 5) rfl))), nowords_in⟩⟩⟩, (fun _ h => List.mem_cons_of_mem _ (List.mem_append_right _ (h)))⟩⟩)
set_option maxRecDepth 20000 in
theorem gX11_silent_X11_sayOf : GoodIn wsX11_silent (wsV RX11 316 RX11 yX11_sayOf wsX11_sayOf) := goodIn_app (goodIn_by gd_X11_silent (List.forall_mem_cons.mpr ⟨List.mem_cons_of_mem _ (List.mem_append_left _ (List.mem_append_left _ (List.mem_of_getElem? (i := 1) rfl))), List.forall_mem_cons.mpr ⟨List.mem_cons_of_mem _ (List.mem_append_left _ (List.mem_append_left _ (List.mem_of_getElem? (i := 2) rfl))), List.forall_mem_cons.mpr ⟨List.mem_cons_of_mem _ (List.mem_append_left _ (List.mem_append_left _ (List.mem_of_getElem? (i := 3) rfl))), List.forall_mem_cons.mpr ⟨List.mem_cons_of_mem _ (List.mem_append_left _ (List.mem_append_left _ (List.mem_of_getElem? (i := 4) rfl))), nowords_in⟩⟩⟩⟩)) ggX11_silent_X11_sayOf
set_option maxRecDepth 20000 in
theorem ggX11_silent_X11_gives : GoodIn wsX11_silent wsX11_gives := goodIn_by gd_X11_silent (List.forall_mem_cons.mpr ⟨List.mem_cons_of_mem _ (List.mem_append_left _ (List.mem_append_right _ (List.mem_of_getElem? (i := 9) rfl))), List.forall_mem_append.mpr ⟨List.forall_mem_cons.mpr ⟨List.mem_cons_of_mem _ (List.mem_append_left _ (List.mem_append_right _ (List.mem_of_getElem? (i := 10) rfl))), nowords_in⟩, (fun _ h => List.mem_cons_of_mem _ (List.mem_append_right _ (h)))⟩⟩)
set_option maxRecDepth 20000 in
theorem gX11_silent_X11_gives : GoodIn wsX11_silent (wsV RX11 79 RX11 yX11_gives wsX11_gives) := goodIn_app (goodIn_by gd_X11_silent (List.forall_mem_cons.mpr ⟨List.mem_cons_of_mem _ (List.mem_append_left _ (List.mem_append_right _ (List.mem_of_getElem? (i := 6) rfl))), List.forall_mem_cons.mpr ⟨List.mem_cons_of_mem _ (List.mem_append_left _ (List.mem_append_right _ (List.mem_of_getElem? (i := 7) rfl))), List.forall_mem_cons.mpr ⟨List.mem_cons_of_mem _ (List.mem_append_left _ (List.mem_append_right _ (List.mem_of_getElem? (i := 8) rfl))), List.forall_mem_cons.mpr ⟨List.mem_cons_of_mem _ (List.mem_append_left _ (List.mem_append_left _ (List.mem_of_getElem? (i := 4) rfl))), nowords_in⟩⟩⟩⟩)) ggX11_silent_X11_gives
theorem dX11_silent_0 : decode cX11_silent 0 = .ok (.iconst 0, 1) := by decide +kernel
theorem dX11_silent_1 : decode cX11_silent 1 = .ok (.istore_n 1, 1) := by decide +kernel
theorem dX11_silent_2 : decode cX11_silent 2 = .ok (.iconst 0, 1) := by decide +kernel
theorem dX11_silent_3 : decode cX11_silent 3 = .ok (.istore_n 2, 1) := by decide +kernel
theorem dX11_silent_4 : decode cX11_silent 4 = .ok (.iload_n 2, 1) := by decide +kernel
theorem dX11_silent_5 : decode cX11_silent 5 = .ok (.aload_n 0, 1) := by decide +kernel
theorem dX11_silent_6 : decode cX11_silent 6 = .ok (.getfield 7, 3) := by decide +kernel
theorem dX11_silent_9 : decode cX11_silent 9 = .ok (.iconst 1, 1) := by decide +kernel
theorem dX11_silent_10 : decode cX11_silent 10 = .ok (.iaload, 1) := by decide +kernel
theorem dX11_silent_11 : decode cX11_silent 11 = .ok (.if_icmp .ge 26, 3) := by decide +kernel
theorem dX11_silent_14 : decode cX11_silent 14 = .ok (.iload_n 1, 1) := by decide +kernel
theorem dX11_silent_15 : decode cX11_silent 15 = .ok (.aload_n 0, 1) := by decide +kernel
theorem dX11_silent_16 : decode cX11_silent 16 = .ok (.iload_n 2, 1) := by decide +kernel
theorem dX11_silent_17 : decode cX11_silent 17 = .ok (.invokevirtual 316, 3) := by decide +kernel
theorem dX11_silent_20 : decode cX11_silent 20 = .ok (.iconst (-1), 1) := by decide +kernel
theorem dX11_silent_21 : decode cX11_silent 21 = .ok (.if_icmp .ne 7, 3) := by decide +kernel
theorem dX11_silent_24 : decode cX11_silent 24 = .ok (.iconst 1, 1) := by decide +kernel
theorem dX11_silent_25 : decode cX11_silent 25 = .ok (.goto 4, 3) := by decide +kernel
theorem dX11_silent_28 : decode cX11_silent 28 = .ok (.iconst 0, 1) := by decide +kernel
theorem dX11_silent_29 : decode cX11_silent 29 = .ok (.iadd, 1) := by decide +kernel
theorem dX11_silent_30 : decode cX11_silent 30 = .ok (.istore_n 1, 1) := by decide +kernel
theorem dX11_silent_31 : decode cX11_silent 31 = .ok (.iinc 2 1, 3) := by decide +kernel
theorem dX11_silent_34 : decode cX11_silent 34 = .ok (.goto (-30), 3) := by decide +kernel
theorem dX11_silent_37 : decode cX11_silent 37 = .ok (.aload_n 0, 1) := by decide +kernel
theorem dX11_silent_38 : decode cX11_silent 38 = .ok (.iload_n 1, 1) := by decide +kernel
theorem dX11_silent_39 : decode cX11_silent 39 = .ok (.invokevirtual 79, 3) := by decide +kernel
theorem dX11_silent_42 : decode cX11_silent 42 = .ok (.ireturn, 1) := by decide +kernel
abbrev rmX11_silent : Room := { frames := 4, cells := 0, slots := 0, locals := 92 }
set_option maxHeartbeats 4000000 in
set_option maxRecDepth 100000 in
theorem kX11_silent (l : Launch) (D : va_G) (cy : Nat → ClassId) (h0 : Nat) (a0 : Nat → Nat) (s0 : Rc) (res : Int32 × Rc) (h : fX11_silent s0 = some res) : CI l D cy yX11_silent wsX11_silent rmX11_silent [.ref h0] (flat [WX11 cy h0 a0 s0]) (flat [WX11 cy h0 a0 res.2]) res.1 := by
  refine CI.of (cc := cX11_silent) (maxL := 3) (by decide) rfl (Nat.le_of_ble_eq_true rfl) ?_
  intro p e s m args below meth c A QQ ls E hr
  obtain ⟨hx, hb, hml, hown, hts, hK, hN, hP, hD, hA, hl⟩ := E
  have hret : ∀ (pc : Nat) (H : Heap) (locs : List Loc) (ls : Array Slot) (u : Int32 × Rc), u = res → va_P D vwCl (flat [WX11 cy h0 a0 u.2]) H → va_D A (flat [WX11 cy h0 a0 u.2]) → va_S A s.heap H locs → decode cX11_silent pc = .ok (.ireturn, 1) → W p l e rmX11_silent s m args below meth c H locs 0 0 QQ (F0 m pc ls [.int u.1]) := by
    intro pc H locs ls u hu hP hD hS hd; subst hu; exact hr pc H locs ls _ rfl hP hD hS hd
  clear hr
  have hl : lv_has ls 3 [(0, .ref h0)] := hl
  have hinX11 : ∀ w ∈ wsX110, w ∈ wsX11_silent := fun _ h => List.mem_cons_of_mem _ (List.mem_append_right _ h)
  unfold fX11_silent at h
  suffices key : ∀ (H : Heap) (locs : List Loc), va_P D vwCl (flat [WX11 cy h0 a0 s0]) H → va_S A s.heap H locs → W p l e rmX11_silent s m args below meth c H locs 0 0 QQ (F0 m 0 ls []) from key _ _ hP va_S.rf
  clear hP
  intro H locs hP hS
  refine lv_iconst (v := 0) hx hb dX11_silent_0 (by decide) ?_
  refine lv_istore_n (lv' := [(1, .int (0 : Int32)), (0, .ref h0)]) hx hb dX11_silent_1 rfl hl (by decide) rfl (fun ls hl => ?_)
  refine lv_iconst (v := 0) hx hb dX11_silent_2 (by decide) ?_
  refine lv_istore_n (lv' := [(2, .int (0 : Int32)), (1, .int (0 : Int32)), (0, .ref h0)]) hx hb dX11_silent_3 rfl hl (by decide) rfl (fun ls hl => ?_)
  have L4 : ∀ (n : Nat) (q4 : Int32 × Int32) (o : Int32), loopO (fX11_silent_L4 s0) n q4 = some o → ∀ (H : Heap) (locs : List Loc) (ls : Array Slot), lv_has ls 3 [(0, .ref h0), (1, .int q4.1), (2, .int q4.2)] → va_P D vwCl (flat [WX11 cy h0 a0 s0]) H → va_D A (flat [WX11 cy h0 a0 s0]) → va_S A s.heap H locs → ∀ (kk37 : ∀ (H : Heap) (locs : List Loc) (ls : Array Slot), lv_has ls 3 [(0, .ref h0), (1, .int o)] → va_P D vwCl (flat [WX11 cy h0 a0 s0]) H → va_D A (flat [WX11 cy h0 a0 s0]) → va_S A s.heap H locs → W p l e rmX11_silent s m args below meth c H locs 0 0 QQ (F0 m 37 ls [])), W p l e rmX11_silent s m args below meth c H locs 0 0 QQ (F0 m 4 ls []) := by
    intro n
    induction n with
    | zero => intro q4 o h; exact absurd h (by rw [loopO_zero]; intro z; cases z)
    | succ n ih =>
      intro q4 o h H locs ls hl hP hD hS kk37
      obtain ⟨w, h, hgo, hst⟩ := loopO_elim h
      unfold fX11_silent_L4 at h
      refine lv_iload_n hx hb dX11_silent_4 rfl (lv_at hl 2 rfl) ?_
      refine lv_aload_n hx hb dX11_silent_5 rfl (lv_at hl 0 rfl) ?_
      refine va_get (D := D) (ci := 11) (v := .ref (a0 0)) (C := RX11) (T := TX11) (N := 38) hx hb hts hinX11 hown hK hP 0 rfl rfl 0 (by decide) (hts (.fieldLink RX11 7 "KneeBenchModel" "at" "[I") (List.mem_of_getElem? (i := 1) rfl)) (fun _ h9 => h9) rfl dX11_silent_6 ?_
      refine lv_iconst (v := 1) hx hb dX11_silent_9 (by decide) ?_
      refine va_iald hx hb hK hP 1 1 rfl rfl (inb_in (by decide)) dX11_silent_10 ?_
      refine lv_icmp_ge (tgt := 37) hx hb dX11_silent_11 (by decide) (fun c1 => ?_) (fun c1 => ?_)
      · replace h := (if_pos c1).symm.trans h
        have eo := hst _ (Option.some.inj h).symm
        subst eo
        exact kk37 H locs ls (lv_sub hl [0, 1] rfl) hP hD hS
      · replace h := (if_neg c1).symm.trans h
        refine lv_iload_n hx hb dX11_silent_14 rfl (lv_at hl 1 rfl) ?_
        refine lv_aload_n hx hb dX11_silent_15 rfl (lv_at hl 0 rfl) ?_
        refine lv_iload_n hx hb dX11_silent_16 rfl (lv_at hl 2 rfl) ?_
        obtain ⟨r2, hr2, h⟩ := bd_elim h
        refine ca_i (w' := [WX11 cy h0 a0 s0]) (rn_V (As := [.int q4.2]) (rest := [.int q4.1]) ⟨hx, hb, hml, hown, hts⟩ (kX11_sayOf l D cy h0 a0 s0 q4.2 r2 hr2 H.size) (cwV 1 hts gX11_silent_X11_sayOf rfl rfl rfl (by decide +kernel) ⟨Nat.le_of_ble_eq_true rfl, Nat.le_of_ble_eq_true rfl⟩) hK hN hP hD [0] rfl rfl (ci := 11) (q0 := 0) rfl rfl rfl rfl hl.1 rfl (Nat.le_of_ble_eq_true rfl) dX11_silent_17 ⟨Nat.le_refl 0, Nat.le_refl 0⟩) hP hD hS hA [0] ⟨rfl, rfl, rfl, rfl⟩ (fun H locs hP hD hS => ?_)
        refine lv_iconst (v := -1) hx hb dX11_silent_20 (by decide) ?_
        refine lv_icmp_ne (tgt := 28) hx hb dX11_silent_21 (by decide) (fun c3 => ?_) (fun c3 => ?_)
        · replace h := (if_neg c3).symm.trans h
          refine lv_iconst (v := 0) hx hb dX11_silent_28 (by decide) ?_
          refine lv_iadd hx hb dX11_silent_29 ?_
          refine lv_topi (fun x4 ex4 => ?_)
          replace h := lt_use h x4 ex4
          refine lv_istore_n (lv' := [(1, .int x4), (0, .ref h0), (2, .int q4.2)]) hx hb dX11_silent_30 rfl hl (by decide) rfl (fun ls hl => ?_)
          refine lv_iinc (v := (q4.2 + (1 : Int32))) (lv' := [(2, .int (q4.2 + (1 : Int32))), (1, .int x4), (0, .ref h0)]) hx hb dX11_silent_31 hl (k := 2) rfl rfl (by decide) rfl (fun ls hl => ?_)
          refine lv_goto (tgt := 4) hx hb dX11_silent_34 (by decide) ?_
          exact ih _ o (hgo _ (Option.some.inj h).symm) H locs ls (lv_sub hl [2, 1, 0] rfl) hP hD hS kk37
        · replace h := (if_pos c3).symm.trans h
          refine lv_iconst (v := 1) hx hb dX11_silent_24 (by decide) ?_
          refine lv_goto (tgt := 29) hx hb dX11_silent_25 (by decide) ?_
          refine lv_iadd hx hb dX11_silent_29 ?_
          refine lv_topi (fun x5 ex5 => ?_)
          replace h := lt_use h x5 ex5
          refine lv_istore_n (lv' := [(1, .int x5), (0, .ref h0), (2, .int q4.2)]) hx hb dX11_silent_30 rfl hl (by decide) rfl (fun ls hl => ?_)
          refine lv_iinc (v := (q4.2 + (1 : Int32))) (lv' := [(2, .int (q4.2 + (1 : Int32))), (1, .int x5), (0, .ref h0)]) hx hb dX11_silent_31 hl (k := 2) rfl rfl (by decide) rfl (fun ls hl => ?_)
          refine lv_goto (tgt := 4) hx hb dX11_silent_34 (by decide) ?_
          exact ih _ o (hgo _ (Option.some.inj h).symm) H locs ls (lv_sub hl [2, 1, 0] rfl) hP hD hS kk37
  obtain ⟨o4, ho4, h⟩ := bd_elim h
  obtain ⟨n4, hn4⟩ := loopF_some ho4
  refine L4 n4 _ o4 hn4 H locs ls (lv_sub hl [2, 1, 0] rfl) hP hD hS (fun H locs ls hl hP hD hS => ?_)
  refine lv_aload_n hx hb dX11_silent_37 rfl (lv_at hl 0 rfl) ?_
  refine lv_iload_n hx hb dX11_silent_38 rfl (lv_at hl 1 rfl) ?_
  obtain ⟨r6, hr6, h⟩ := lt_elim h
  refine ca_i (w' := [WX11 cy h0 a0 r6.2]) (rn_V (As := [.int o4]) (rest := []) ⟨hx, hb, hml, hown, hts⟩ (kX11_gives l D cy h0 a0 s0 o4 r6 hr6.symm H.size) (cwV 1 hts gX11_silent_X11_gives rfl rfl rfl (by decide +kernel) ⟨Nat.le_of_ble_eq_true rfl, Nat.le_of_ble_eq_true rfl⟩) hK hN hP hD [0] rfl rfl (ci := 11) (q0 := 0) rfl rfl rfl rfl hl.1 rfl (Nat.le_of_ble_eq_true rfl) dX11_silent_39 ⟨Nat.le_refl 0, Nat.le_refl 0⟩) hP hD hS hA [0] ⟨rfl, rfl, rfl, rfl⟩ (fun H locs hP hD hS => ?_)
  exact hret 42 H locs ls (r6.1, r6.2) (Option.some.inj h) hP hD hS dX11_silent_42
theorem gd_X11_span : wsX11_span.all goodWord = true := by decide +kernel
set_option maxRecDepth 20000 in
theorem ggX11_span_X11_isSpan : GoodIn wsX11_span wsX11_isSpan := goodIn_by gd_X11_span (List.forall_mem_cons.mpr ⟨List.mem_cons_of_mem _ (List.mem_append_left _ (List.mem_append_left _ (List.mem_of_getElem? (i := 3) rfl))), List.forall_mem_cons.mpr ⟨List.mem_cons_of_mem _ (List.mem_append_left _ (List.mem_append_left _ (List.mem_of_getElem? (i := 4) rfl))), List.forall_mem_cons.mpr ⟨List.mem_cons_of_mem _ (List.mem_append_left _ (List.mem_append_left _ (List.mem_of_getElem? (i := 5) rfl))), List.forall_mem_cons.mpr ⟨List.mem_cons_of_mem _ (List.mem_append_left _ (List.mem_append_left _ (List.mem_of_getElem? (i := 2) rfl))), List.forall_mem_cons.mpr ⟨List.mem_cons_of_mem _ (List.mem_append_left _ (List.mem_append_left _ (List.mem_of_getElem? (i := 6) rfl))), nowords_in⟩⟩⟩⟩⟩)
set_option maxRecDepth 20000 in
theorem gX11_span_X11_isSpan : GoodIn wsX11_span (va_wsS RX11 349 yX11_isSpan wsX11_isSpan) := goodIn_app (goodIn_by gd_X11_span (List.forall_mem_cons.mpr ⟨List.mem_cons_of_mem _ (List.mem_append_left _ (List.mem_append_left _ (List.mem_of_getElem? (i := 0) rfl))), List.forall_mem_cons.mpr ⟨List.mem_cons_of_mem _ (List.mem_append_left _ (List.mem_append_left _ (List.mem_of_getElem? (i := 1) rfl))), List.forall_mem_cons.mpr ⟨List.mem_cons_of_mem _ (List.mem_append_left _ (List.mem_append_left _ (List.mem_of_getElem? (i := 2) rfl))), nowords_in⟩⟩⟩)) ggX11_span_X11_isSpan
set_option maxRecDepth 20000 in
theorem ggX11_span_X11_refuse : GoodIn wsX11_span wsX11_refuse := goodIn_by gd_X11_span (List.forall_mem_cons.mpr ⟨List.mem_cons_of_mem _ (List.mem_append_left _ (List.mem_append_left _ (List.mem_of_getElem? (i := 10) rfl))), List.forall_mem_append.mpr ⟨List.forall_mem_cons.mpr ⟨List.mem_cons_of_mem _ (List.mem_append_left _ (List.mem_append_left _ (List.mem_of_getElem? (i := 11) rfl))), nowords_in⟩, (fun _ h => List.mem_cons_of_mem _ (List.mem_append_right _ (h)))⟩⟩)
set_option maxRecDepth 20000 in
theorem gX11_span_X11_refuse : GoodIn wsX11_span (wsV RX11 75 RX11 yX11_refuse wsX11_refuse) := goodIn_app (goodIn_by gd_X11_span (List.forall_mem_cons.mpr ⟨List.mem_cons_of_mem _ (List.mem_append_left _ (List.mem_append_left _ (List.mem_of_getElem? (i := 7) rfl))), List.forall_mem_cons.mpr ⟨List.mem_cons_of_mem _ (List.mem_append_left _ (List.mem_append_left _ (List.mem_of_getElem? (i := 8) rfl))), List.forall_mem_cons.mpr ⟨List.mem_cons_of_mem _ (List.mem_append_left _ (List.mem_append_left _ (List.mem_of_getElem? (i := 9) rfl))), List.forall_mem_cons.mpr ⟨List.mem_cons_of_mem _ (List.mem_append_left _ (List.mem_append_left _ (List.mem_of_getElem? (i := 2) rfl))), nowords_in⟩⟩⟩⟩)) ggX11_span_X11_refuse
set_option maxRecDepth 20000 in
theorem ggX11_span_X11_sayOf : GoodIn wsX11_span wsX11_sayOf := goodIn_by gd_X11_span (List.forall_mem_cons.mpr ⟨List.mem_cons_of_mem _ (List.mem_append_left _ (List.mem_append_left _ (List.mem_of_getElem? (i := 15) rfl))), List.forall_mem_append.mpr ⟨List.forall_mem_append.mpr ⟨List.forall_mem_cons.mpr ⟨List.mem_cons_of_mem _ (List.mem_append_left _ (List.mem_append_left _ (List.mem_of_getElem? (i := 16) rfl))), List.forall_mem_cons.mpr ⟨List.mem_cons_of_mem _ (List.mem_append_left _ (List.mem_append_left _ (List.mem_of_getElem? (i := 17) rfl))), List.forall_mem_cons.mpr ⟨List.mem_cons_of_mem _ (List.mem_append_left _ (List.mem_append_left _ (List.mem_of_getElem? (i := 18) rfl))), List.forall_mem_cons.mpr ⟨List.mem_cons_of_mem _ (List.mem_append_left _ (List.mem_append_left _ (List.mem_of_getElem? (i := 19) rfl))), List.forall_mem_cons.mpr ⟨List.mem_cons_of_mem _ (List.mem_append_left _ (List.mem_append_left _ (List.mem_of_getElem? (i := 2) rfl))), List.forall_mem_cons.mpr ⟨List.mem_cons_of_mem _ (List.mem_append_left _ (List.mem_append_left _ (List.mem_of_getElem? (i := 20) rfl))), List.forall_mem_cons.mpr ⟨List.mem_cons_of_mem _ (List.mem_append_left _ (List.mem_append_left _ (List.mem_of_getElem? (i := 21) rfl))), List.forall_mem_cons.mpr ⟨List.mem_cons_of_mem _ (List.mem_append_left _ (List.mem_append_left _ (List.mem_of_getElem? (i := 22) rfl))), List.forall_mem_cons.mpr ⟨List.mem_cons_of_mem _ (List.mem_append_left _ (List.mem_append_left _ (List.mem_of_getElem? (i := 23) rfl))), List.forall_mem_cons.mpr ⟨List.mem_cons_of_mem _ (List.mem_append_left _ (List.mem_append_right _ (List.mem_of_getElem? (i := 0) rfl))), List.forall_mem_cons.mpr ⟨List.mem_cons_of_mem _ (List.mem_append_left _ (List.mem_append_right _ (List.mem_of_getElem? (i := 1) rfl))), List.forall_mem_cons.mpr ⟨List.mem_cons_of_mem _ (List.mem_append_left _ (List.mem_append_right _ (List.mem_of_getElem? (i := 2) rfl))), List.forall_mem_cons.mpr ⟨List.mem_cons_of_mem _ (List.mem_append_left _ (List.mem_append_right _ (List.mem_of_getElem? (i := 3) rfl))), List.forall_mem_cons.mpr ⟨List.mem_cons_of_mem _ (List.mem_append_left _ (List.mem_append_right _ (List.mem_of_getElem? (i := 4) rfl))), List.forall_mem_cons.mpr ⟨List.mem_cons_of_mem _ (List.mem_append_left _ (List.mem_append_right _ (List.mem_of_getElem? (i := 5) rfl))), List.forall_mem_cons.mpr ⟨List.mem_cons_of_mem _ (List.mem_append_left _ (List.mem_append_right _ (List.mem_of_getElem? (i := 6) rfl))), List.forall_mem_cons.mpr ⟨List.mem_cons_of_mem _ (List.mem_append_left _ (List.mem_append_right _ (List.mem_of_getElem? (i := 7) rfl))), List.forall_mem_cons.mpr ⟨List.mem_cons_of_mem _ (List.mem_append_left _ (List.mem_append_right _ (List.mem_of_getElem? (i := 8) rfl))), List.forall_mem_cons.mpr ⟨List.mem_cons_of_mem _ (List.mem_append_left _ (List.mem_append_right _ (List.mem_of_getElem? (i := 9) rfl))), List.forall_mem_cons.mpr ⟨List.mem_cons_of_mem _ (List.mem_append_left _ (List.mem_append_right _ (List.mem_of_getElem? (i := 10) rfl))), List.forall_mem_cons.mpr ⟨List.mem_cons_of_mem _ (List.mem_append_left _ (List.mem_append_right _ (List.mem_of_getElem? (i := 11) rfl))), List.forall_mem_cons.mpr ⟨List.mem_cons_of_mem _ (List.mem_append_left _ (List.mem_append_right _ (List.mem_of_getElem? (i := 12) rfl))), List.forall_mem_cons.mpr ⟨List.mem_cons_of_mem _ (List.mem_append_left _ (List.mem_append_right _ (List.mem_of_getElem? (i := 13) rfl))), List.forall_mem_cons.mpr ⟨List.mem_cons_of_mem _ (List.mem_append_left _ (List.mem_append_right _ (List.mem_of_getElem? (i := 14) rfl))), nowords_in⟩⟩⟩⟩⟩⟩⟩⟩⟩⟩⟩⟩⟩⟩⟩⟩⟩⟩⟩⟩⟩⟩⟩⟩, List.forall_mem_cons.mpr ⟨List.mem_cons_of_mem _ (List.mem_append_left _ (List.mem_append_right _ (List.mem_of_getElem? (i := 15) rfl))), List.forall_mem_cons.mpr ⟨List.mem_cons_of_mem _ (List.mem_append_left _ (List.mem_append_right _ (List.mem_of_getElem? (i := 16) rfl))), nowords_in⟩⟩⟩, (fun _ h => List.mem_cons_of_mem _ (List.mem_append_right _ (h)))⟩⟩)
set_option maxRecDepth 20000 in
theorem gX11_span_X11_sayOf : GoodIn wsX11_span (wsV RX11 316 RX11 yX11_sayOf wsX11_sayOf) := goodIn_app (goodIn_by gd_X11_span (List.forall_mem_cons.mpr ⟨List.mem_cons_of_mem _ (List.mem_append_left _ (List.mem_append_left _ (List.mem_of_getElem? (i := 12) rfl))), List.forall_mem_cons.mpr ⟨List.mem_cons_of_mem _ (List.mem_append_left _ (List.mem_append_left _ (List.mem_of_getElem? (i := 13) rfl))), List.forall_mem_cons.mpr ⟨List.mem_cons_of_mem _ (List.mem_append_left _ (List.mem_append_left _ (List.mem_of_getElem? (i := 14) rfl))), List.forall_mem_cons.mpr ⟨List.mem_cons_of_mem _ (List.mem_append_left _ (List.mem_append_left _ (List.mem_of_getElem? (i := 2) rfl))), nowords_in⟩⟩⟩⟩)) ggX11_span_X11_sayOf
set_option maxRecDepth 20000 in
theorem ggX11_span_X11_gives : GoodIn wsX11_span wsX11_gives := goodIn_by gd_X11_span (List.forall_mem_cons.mpr ⟨List.mem_cons_of_mem _ (List.mem_append_left _ (List.mem_append_right _ (List.mem_of_getElem? (i := 20) rfl))), List.forall_mem_append.mpr ⟨List.forall_mem_cons.mpr ⟨List.mem_cons_of_mem _ (List.mem_append_left _ (List.mem_append_left _ (List.mem_of_getElem? (i := 11) rfl))), nowords_in⟩, (fun _ h => List.mem_cons_of_mem _ (List.mem_append_right _ (h)))⟩⟩)
set_option maxRecDepth 20000 in
theorem gX11_span_X11_gives : GoodIn wsX11_span (wsV RX11 79 RX11 yX11_gives wsX11_gives) := goodIn_app (goodIn_by gd_X11_span (List.forall_mem_cons.mpr ⟨List.mem_cons_of_mem _ (List.mem_append_left _ (List.mem_append_right _ (List.mem_of_getElem? (i := 17) rfl))), List.forall_mem_cons.mpr ⟨List.mem_cons_of_mem _ (List.mem_append_left _ (List.mem_append_right _ (List.mem_of_getElem? (i := 18) rfl))), List.forall_mem_cons.mpr ⟨List.mem_cons_of_mem _ (List.mem_append_left _ (List.mem_append_right _ (List.mem_of_getElem? (i := 19) rfl))), List.forall_mem_cons.mpr ⟨List.mem_cons_of_mem _ (List.mem_append_left _ (List.mem_append_left _ (List.mem_of_getElem? (i := 2) rfl))), nowords_in⟩⟩⟩⟩)) ggX11_span_X11_gives
theorem dX11_span_0 : decode cX11_span 0 = .ok (.iload_n 1, 1) := by decide +kernel
theorem dX11_span_1 : decode cX11_span 1 = .ok (.iload_n 2, 1) := by decide +kernel
theorem dX11_span_2 : decode cX11_span 2 = .ok (.invokestatic 349, 3) := by decide +kernel
theorem dX11_span_5 : decode cX11_span 5 = .ok (.ifCond .ne 9, 3) := by decide +kernel
theorem dX11_span_8 : decode cX11_span 8 = .ok (.aload_n 0, 1) := by decide +kernel
theorem dX11_span_9 : decode cX11_span 9 = .ok (.iconst 1, 1) := by decide +kernel
theorem dX11_span_10 : decode cX11_span 10 = .ok (.invokevirtual 75, 3) := by decide +kernel
theorem dX11_span_13 : decode cX11_span 13 = .ok (.ireturn, 1) := by decide +kernel
theorem dX11_span_14 : decode cX11_span 14 = .ok (.iconst 0, 1) := by decide +kernel
theorem dX11_span_15 : decode cX11_span 15 = .ok (.istore_n 3, 1) := by decide +kernel
theorem dX11_span_16 : decode cX11_span 16 = .ok (.iload_n 1, 1) := by decide +kernel
theorem dX11_span_17 : decode cX11_span 17 = .ok (.istore 4, 2) := by decide +kernel
theorem dX11_span_19 : decode cX11_span 19 = .ok (.iload 4, 2) := by decide +kernel
theorem dX11_span_21 : decode cX11_span 21 = .ok (.iload_n 2, 1) := by decide +kernel
theorem dX11_span_22 : decode cX11_span 22 = .ok (.if_icmp .gt 27, 3) := by decide +kernel
theorem dX11_span_25 : decode cX11_span 25 = .ok (.iload_n 3, 1) := by decide +kernel
theorem dX11_span_26 : decode cX11_span 26 = .ok (.aload_n 0, 1) := by decide +kernel
theorem dX11_span_27 : decode cX11_span 27 = .ok (.iload 4, 2) := by decide +kernel
theorem dX11_span_29 : decode cX11_span 29 = .ok (.invokevirtual 316, 3) := by decide +kernel
theorem dX11_span_32 : decode cX11_span 32 = .ok (.iconst 1, 1) := by decide +kernel
theorem dX11_span_33 : decode cX11_span 33 = .ok (.if_icmp .ne 7, 3) := by decide +kernel
theorem dX11_span_36 : decode cX11_span 36 = .ok (.iconst 1, 1) := by decide +kernel
theorem dX11_span_37 : decode cX11_span 37 = .ok (.goto 4, 3) := by decide +kernel
theorem dX11_span_40 : decode cX11_span 40 = .ok (.iconst 0, 1) := by decide +kernel
theorem dX11_span_41 : decode cX11_span 41 = .ok (.iadd, 1) := by decide +kernel
theorem dX11_span_42 : decode cX11_span 42 = .ok (.istore_n 3, 1) := by decide +kernel
theorem dX11_span_43 : decode cX11_span 43 = .ok (.iinc 4 1, 3) := by decide +kernel
theorem dX11_span_46 : decode cX11_span 46 = .ok (.goto (-27), 3) := by decide +kernel
theorem dX11_span_49 : decode cX11_span 49 = .ok (.aload_n 0, 1) := by decide +kernel
theorem dX11_span_50 : decode cX11_span 50 = .ok (.iload_n 3, 1) := by decide +kernel
theorem dX11_span_51 : decode cX11_span 51 = .ok (.invokevirtual 79, 3) := by decide +kernel
theorem dX11_span_54 : decode cX11_span 54 = .ok (.ireturn, 1) := by decide +kernel
abbrev rmX11_span : Room := { frames := 4, cells := 0, slots := 0, locals := 92 }
set_option maxHeartbeats 4000000 in
set_option maxRecDepth 100000 in
theorem kX11_span (l : Launch) (D : va_G) (cy : Nat → ClassId) (h0 : Nat) (a0 : Nat → Nat) (s0 : Rc) (p1 : Int32) (p2 : Int32) (res : Int32 × Rc) (h : fX11_span p1 p2 s0 = some res) : CI l D cy yX11_span wsX11_span rmX11_span [.ref h0, .int p1, .int p2] (flat [WX11 cy h0 a0 s0]) (flat [WX11 cy h0 a0 res.2]) res.1 := by
  refine CI.of (cc := cX11_span) (maxL := 5) (by decide) rfl (Nat.le_of_ble_eq_true rfl) ?_
  intro p e s m args below meth c A QQ ls E hr
  obtain ⟨hx, hb, hml, hown, hts, hK, hN, hP, hD, hA, hl⟩ := E
  have hret : ∀ (pc : Nat) (H : Heap) (locs : List Loc) (ls : Array Slot) (u : Int32 × Rc), u = res → va_P D vwCl (flat [WX11 cy h0 a0 u.2]) H → va_D A (flat [WX11 cy h0 a0 u.2]) → va_S A s.heap H locs → decode cX11_span pc = .ok (.ireturn, 1) → W p l e rmX11_span s m args below meth c H locs 0 0 QQ (F0 m pc ls [.int u.1]) := by
    intro pc H locs ls u hu hP hD hS hd; subst hu; exact hr pc H locs ls _ rfl hP hD hS hd
  clear hr
  have hl : lv_has ls 5 [(0, .ref h0), (1, .int p1), (2, .int p2)] := hl
  unfold fX11_span at h
  suffices key : ∀ (H : Heap) (locs : List Loc), va_P D vwCl (flat [WX11 cy h0 a0 s0]) H → va_S A s.heap H locs → W p l e rmX11_span s m args below meth c H locs 0 0 QQ (F0 m 0 ls []) from key _ _ hP va_S.rf
  clear hP
  intro H locs hP hS
  refine lv_iload_n hx hb dX11_span_0 rfl (lv_at hl 1 rfl) ?_
  refine lv_iload_n hx hb dX11_span_1 rfl (lv_at hl 2 rfl) ?_
  refine ca_z (w' := [WX11 cy h0 a0 s0]) (rn_S (As := [.int p1, .int p2]) (rest := []) ⟨hx, hb, hml, hown, hts⟩ (kX11_isSpan l D cy p1 p2 _ rfl H.size) (va_cwS 2 hts gX11_span_X11_isSpan rfl rfl rfl (by decide +kernel) ⟨Nat.le_of_ble_eq_true rfl, Nat.le_of_ble_eq_true rfl⟩) hK hN hP hD [] rfl rfl rfl hl.1 rfl (Nat.le_of_ble_eq_true rfl) dX11_span_2 ⟨Nat.le_refl 0, Nat.le_refl 0⟩) hP hD hS hA [] ⟨rfl, rfl, rfl, rfl⟩ (fun b1 H locs hP hD hS => ?_)
  refine lv_if_ne (tgt := 14) hx hb dX11_span_5 (by decide) (fun c2 => ?_) (fun c2 => ?_)
  · replace h := (if_neg c2).symm.trans h
    refine lv_iconst (v := 0) hx hb dX11_span_14 (by decide) ?_
    refine lv_istore_n (lv' := [(3, .int (0 : Int32)), (0, .ref h0), (1, .int p1), (2, .int p2)]) hx hb dX11_span_15 rfl hl (by decide) rfl (fun ls hl => ?_)
    refine lv_iload_n hx hb dX11_span_16 rfl (lv_at hl 2 rfl) ?_
    refine lv_istore (lv' := [(4, .int p1), (3, .int (0 : Int32)), (0, .ref h0), (1, .int p1), (2, .int p2)]) hx hb dX11_span_17 hl (by decide) rfl (fun ls hl => ?_)
    have L19 : ∀ (n : Nat) (q19 : Int32 × Int32) (o : Int32), loopO (fX11_span_L19 p2 s0) n q19 = some o → ∀ (H : Heap) (locs : List Loc) (ls : Array Slot), lv_has ls 5 [(0, .ref h0), (2, .int p2), (3, .int q19.1), (4, .int q19.2)] → va_P D vwCl (flat [WX11 cy h0 a0 s0]) H → va_D A (flat [WX11 cy h0 a0 s0]) → va_S A s.heap H locs → ∀ (kk49 : ∀ (H : Heap) (locs : List Loc) (ls : Array Slot), lv_has ls 5 [(0, .ref h0), (3, .int o)] → va_P D vwCl (flat [WX11 cy h0 a0 s0]) H → va_D A (flat [WX11 cy h0 a0 s0]) → va_S A s.heap H locs → W p l e rmX11_span s m args below meth c H locs 0 0 QQ (F0 m 49 ls [])), W p l e rmX11_span s m args below meth c H locs 0 0 QQ (F0 m 19 ls []) := by
      intro n
      induction n with
      | zero => intro q19 o h; exact absurd h (by rw [loopO_zero]; intro z; cases z)
      | succ n ih =>
        intro q19 o h H locs ls hl hP hD hS kk49
        obtain ⟨w, h, hgo, hst⟩ := loopO_elim h
        unfold fX11_span_L19 at h
        refine lv_iload hx hb dX11_span_19 (lv_at hl 3 rfl) ?_
        refine lv_iload_n hx hb dX11_span_21 rfl (lv_at hl 1 rfl) ?_
        refine lv_icmp_gt (tgt := 49) hx hb dX11_span_22 (by decide) (fun c3 => ?_) (fun c3 => ?_)
        · replace h := (if_pos c3).symm.trans h
          have eo := hst _ (Option.some.inj h).symm
          subst eo
          exact kk49 H locs ls (lv_sub hl [0, 2] rfl) hP hD hS
        · replace h := (if_neg c3).symm.trans h
          refine lv_iload_n hx hb dX11_span_25 rfl (lv_at hl 2 rfl) ?_
          refine lv_aload_n hx hb dX11_span_26 rfl (lv_at hl 0 rfl) ?_
          refine lv_iload hx hb dX11_span_27 (lv_at hl 3 rfl) ?_
          obtain ⟨r4, hr4, h⟩ := bd_elim h
          refine ca_i (w' := [WX11 cy h0 a0 s0]) (rn_V (As := [.int q19.2]) (rest := [.int q19.1]) ⟨hx, hb, hml, hown, hts⟩ (kX11_sayOf l D cy h0 a0 s0 q19.2 r4 hr4 H.size) (cwV 1 hts gX11_span_X11_sayOf rfl rfl rfl (by decide +kernel) ⟨Nat.le_of_ble_eq_true rfl, Nat.le_of_ble_eq_true rfl⟩) hK hN hP hD [0] rfl rfl (ci := 11) (q0 := 0) rfl rfl rfl rfl hl.1 rfl (Nat.le_of_ble_eq_true rfl) dX11_span_29 ⟨Nat.le_refl 0, Nat.le_refl 0⟩) hP hD hS hA [0] ⟨rfl, rfl, rfl, rfl⟩ (fun H locs hP hD hS => ?_)
          refine lv_iconst (v := 1) hx hb dX11_span_32 (by decide) ?_
          refine lv_icmp_ne (tgt := 40) hx hb dX11_span_33 (by decide) (fun c5 => ?_) (fun c5 => ?_)
          · replace h := (if_neg c5).symm.trans h
            refine lv_iconst (v := 0) hx hb dX11_span_40 (by decide) ?_
            refine lv_iadd hx hb dX11_span_41 ?_
            refine lv_topi (fun x6 ex6 => ?_)
            replace h := lt_use h x6 ex6
            refine lv_istore_n (lv' := [(3, .int x6), (0, .ref h0), (2, .int p2), (4, .int q19.2)]) hx hb dX11_span_42 rfl hl (by decide) rfl (fun ls hl => ?_)
            refine lv_iinc (v := (q19.2 + (1 : Int32))) (lv' := [(4, .int (q19.2 + (1 : Int32))), (3, .int x6), (0, .ref h0), (2, .int p2)]) hx hb dX11_span_43 hl (k := 3) rfl rfl (by decide) rfl (fun ls hl => ?_)
            refine lv_goto (tgt := 19) hx hb dX11_span_46 (by decide) ?_
            exact ih _ o (hgo _ (Option.some.inj h).symm) H locs ls (lv_sub hl [2, 3, 1, 0] rfl) hP hD hS kk49
          · replace h := (if_pos c5).symm.trans h
            refine lv_iconst (v := 1) hx hb dX11_span_36 (by decide) ?_
            refine lv_goto (tgt := 41) hx hb dX11_span_37 (by decide) ?_
            refine lv_iadd hx hb dX11_span_41 ?_
            refine lv_topi (fun x7 ex7 => ?_)
            replace h := lt_use h x7 ex7
            refine lv_istore_n (lv' := [(3, .int x7), (0, .ref h0), (2, .int p2), (4, .int q19.2)]) hx hb dX11_span_42 rfl hl (by decide) rfl (fun ls hl => ?_)
            refine lv_iinc (v := (q19.2 + (1 : Int32))) (lv' := [(4, .int (q19.2 + (1 : Int32))), (3, .int x7), (0, .ref h0), (2, .int p2)]) hx hb dX11_span_43 hl (k := 3) rfl rfl (by decide) rfl (fun ls hl => ?_)
            refine lv_goto (tgt := 19) hx hb dX11_span_46 (by decide) ?_
            exact ih _ o (hgo _ (Option.some.inj h).symm) H locs ls (lv_sub hl [2, 3, 1, 0] rfl) hP hD hS kk49
    obtain ⟨o19, ho19, h⟩ := bd_elim h
    obtain ⟨n19, hn19⟩ := loopF_some ho19
    refine L19 n19 _ o19 hn19 H locs ls (lv_sub hl [2, 4, 1, 0] rfl) hP hD hS (fun H locs ls hl hP hD hS => ?_)
    refine lv_aload_n hx hb dX11_span_49 rfl (lv_at hl 0 rfl) ?_
    refine lv_iload_n hx hb dX11_span_50 rfl (lv_at hl 1 rfl) ?_
    obtain ⟨r8, hr8, h⟩ := lt_elim h
    refine ca_i (w' := [WX11 cy h0 a0 r8.2]) (rn_V (As := [.int o19]) (rest := []) ⟨hx, hb, hml, hown, hts⟩ (kX11_gives l D cy h0 a0 s0 o19 r8 hr8.symm H.size) (cwV 1 hts gX11_span_X11_gives rfl rfl rfl (by decide +kernel) ⟨Nat.le_of_ble_eq_true rfl, Nat.le_of_ble_eq_true rfl⟩) hK hN hP hD [0] rfl rfl (ci := 11) (q0 := 0) rfl rfl rfl rfl hl.1 rfl (Nat.le_of_ble_eq_true rfl) dX11_span_51 ⟨Nat.le_refl 0, Nat.le_refl 0⟩) hP hD hS hA [0] ⟨rfl, rfl, rfl, rfl⟩ (fun H locs hP hD hS => ?_)
    exact hret 54 H locs ls (r8.1, r8.2) (Option.some.inj h) hP hD hS dX11_span_54
  · replace h := (if_pos c2).symm.trans h
    refine lv_aload_n hx hb dX11_span_8 rfl (lv_at hl 0 rfl) ?_
    refine lv_iconst (v := 1) hx hb dX11_span_9 (by decide) ?_
    obtain ⟨r9, hr9, h⟩ := lt_elim h
    refine ca_i (w' := [WX11 cy h0 a0 r9.2]) (rn_V (As := [.int (1 : Int32)]) (rest := []) ⟨hx, hb, hml, hown, hts⟩ (kX11_refuse l D cy h0 a0 s0 (1 : Int32) r9 hr9.symm H.size) (cwV 1 hts gX11_span_X11_refuse rfl rfl rfl (by decide +kernel) ⟨Nat.le_of_ble_eq_true rfl, Nat.le_of_ble_eq_true rfl⟩) hK hN hP hD [0] rfl rfl (ci := 11) (q0 := 0) rfl rfl rfl rfl hl.1 rfl (Nat.le_of_ble_eq_true rfl) dX11_span_10 ⟨Nat.le_refl 0, Nat.le_refl 0⟩) hP hD hS hA [0] ⟨rfl, rfl, rfl, rfl⟩ (fun H locs hP hD hS => ?_)
    exact hret 13 H locs ls (r9.1, r9.2) (Option.some.inj h) hP hD hS dX11_span_13
theorem gd_X11_spell : wsX11_spell.all goodWord = true := by decide +kernel
set_option maxRecDepth 20000 in
theorem ggX11_spell_X11_refuse : GoodIn wsX11_spell wsX11_refuse := goodIn_by gd_X11_spell (List.forall_mem_cons.mpr ⟨List.mem_cons_of_mem _ (List.mem_append_left _ (List.mem_of_getElem? (i := 9) rfl)), List.forall_mem_append.mpr ⟨List.forall_mem_cons.mpr ⟨List.mem_cons_of_mem _ (List.mem_append_left _ (List.mem_of_getElem? (i := 10) rfl)), nowords_in⟩, (fun _ h => List.mem_cons_of_mem _ (List.mem_append_right _ (h)))⟩⟩)
set_option maxRecDepth 20000 in
theorem gX11_spell_X11_refuse : GoodIn wsX11_spell (wsV RX11 75 RX11 yX11_refuse wsX11_refuse) := goodIn_app (goodIn_by gd_X11_spell (List.forall_mem_cons.mpr ⟨List.mem_cons_of_mem _ (List.mem_append_left _ (List.mem_of_getElem? (i := 5) rfl)), List.forall_mem_cons.mpr ⟨List.mem_cons_of_mem _ (List.mem_append_left _ (List.mem_of_getElem? (i := 6) rfl)), List.forall_mem_cons.mpr ⟨List.mem_cons_of_mem _ (List.mem_append_left _ (List.mem_of_getElem? (i := 7) rfl)), List.forall_mem_cons.mpr ⟨List.mem_cons_of_mem _ (List.mem_append_left _ (List.mem_of_getElem? (i := 8) rfl)), nowords_in⟩⟩⟩⟩)) ggX11_spell_X11_refuse
set_option maxRecDepth 20000 in
theorem ggX11_spell_X11_isWet : GoodIn wsX11_spell wsX11_isWet := goodIn_by gd_X11_spell (List.forall_mem_cons.mpr ⟨List.mem_cons_of_mem _ (List.mem_append_left _ (List.mem_of_getElem? (i := 14) rfl)), List.forall_mem_append.mpr ⟨List.forall_mem_cons.mpr ⟨List.mem_cons_of_mem _ (List.mem_append_left _ (List.mem_of_getElem? (i := 0) rfl)), nowords_in⟩, (fun _ h => List.mem_cons_of_mem _ (List.mem_append_right _ (h)))⟩⟩)
set_option maxRecDepth 20000 in
theorem gX11_spell_X11_isWet : GoodIn wsX11_spell (wsV RX11 264 RX11 yX11_isWet wsX11_isWet) := goodIn_app (goodIn_by gd_X11_spell (List.forall_mem_cons.mpr ⟨List.mem_cons_of_mem _ (List.mem_append_left _ (List.mem_of_getElem? (i := 11) rfl)), List.forall_mem_cons.mpr ⟨List.mem_cons_of_mem _ (List.mem_append_left _ (List.mem_of_getElem? (i := 12) rfl)), List.forall_mem_cons.mpr ⟨List.mem_cons_of_mem _ (List.mem_append_left _ (List.mem_of_getElem? (i := 13) rfl)), List.forall_mem_cons.mpr ⟨List.mem_cons_of_mem _ (List.mem_append_left _ (List.mem_of_getElem? (i := 8) rfl)), nowords_in⟩⟩⟩⟩)) ggX11_spell_X11_isWet
set_option maxRecDepth 20000 in
theorem ggX11_spell_X11_gives : GoodIn wsX11_spell wsX11_gives := goodIn_by gd_X11_spell (List.forall_mem_cons.mpr ⟨List.mem_cons_of_mem _ (List.mem_append_left _ (List.mem_of_getElem? (i := 18) rfl)), List.forall_mem_append.mpr ⟨List.forall_mem_cons.mpr ⟨List.mem_cons_of_mem _ (List.mem_append_left _ (List.mem_of_getElem? (i := 10) rfl)), nowords_in⟩, (fun _ h => List.mem_cons_of_mem _ (List.mem_append_right _ (h)))⟩⟩)
set_option maxRecDepth 20000 in
theorem gX11_spell_X11_gives : GoodIn wsX11_spell (wsV RX11 79 RX11 yX11_gives wsX11_gives) := goodIn_app (goodIn_by gd_X11_spell (List.forall_mem_cons.mpr ⟨List.mem_cons_of_mem _ (List.mem_append_left _ (List.mem_of_getElem? (i := 15) rfl)), List.forall_mem_cons.mpr ⟨List.mem_cons_of_mem _ (List.mem_append_left _ (List.mem_of_getElem? (i := 16) rfl)), List.forall_mem_cons.mpr ⟨List.mem_cons_of_mem _ (List.mem_append_left _ (List.mem_of_getElem? (i := 17) rfl)), List.forall_mem_cons.mpr ⟨List.mem_cons_of_mem _ (List.mem_append_left _ (List.mem_of_getElem? (i := 8) rfl)), nowords_in⟩⟩⟩⟩)) ggX11_spell_X11_gives
theorem dX11_spell_0 : decode cX11_spell 0 = .ok (.iload_n 1, 1) := by decide +kernel
theorem dX11_spell_1 : decode cX11_spell 1 = .ok (.ifCond .lt 8, 3) := by decide +kernel
theorem dX11_spell_4 : decode cX11_spell 4 = .ok (.iload_n 1, 1) := by decide +kernel
theorem dX11_spell_5 : decode cX11_spell 5 = .ok (.iconst 1, 1) := by decide +kernel
theorem dX11_spell_6 : decode cX11_spell 6 = .ok (.if_icmp .le 9, 3) := by decide +kernel
theorem dX11_spell_9 : decode cX11_spell 9 = .ok (.aload_n 0, 1) := by decide +kernel
theorem dX11_spell_10 : decode cX11_spell 10 = .ok (.iconst 1, 1) := by decide +kernel
theorem dX11_spell_11 : decode cX11_spell 11 = .ok (.invokevirtual 75, 3) := by decide +kernel
theorem dX11_spell_14 : decode cX11_spell 14 = .ok (.ireturn, 1) := by decide +kernel
theorem dX11_spell_15 : decode cX11_spell 15 = .ok (.iconst 0, 1) := by decide +kernel
theorem dX11_spell_16 : decode cX11_spell 16 = .ok (.istore_n 2, 1) := by decide +kernel
theorem dX11_spell_17 : decode cX11_spell 17 = .ok (.iconst 0, 1) := by decide +kernel
theorem dX11_spell_18 : decode cX11_spell 18 = .ok (.istore_n 3, 1) := by decide +kernel
theorem dX11_spell_19 : decode cX11_spell 19 = .ok (.iconst 0, 1) := by decide +kernel
theorem dX11_spell_20 : decode cX11_spell 20 = .ok (.istore 4, 2) := by decide +kernel
theorem dX11_spell_22 : decode cX11_spell 22 = .ok (.iload 4, 2) := by decide +kernel
theorem dX11_spell_24 : decode cX11_spell 24 = .ok (.aload_n 0, 1) := by decide +kernel
theorem dX11_spell_25 : decode cX11_spell 25 = .ok (.getfield 7, 3) := by decide +kernel
theorem dX11_spell_28 : decode cX11_spell 28 = .ok (.iconst 1, 1) := by decide +kernel
theorem dX11_spell_29 : decode cX11_spell 29 = .ok (.iaload, 1) := by decide +kernel
theorem dX11_spell_30 : decode cX11_spell 30 = .ok (.if_icmp .ge 42, 3) := by decide +kernel
theorem dX11_spell_33 : decode cX11_spell 33 = .ok (.aload_n 0, 1) := by decide +kernel
theorem dX11_spell_34 : decode cX11_spell 34 = .ok (.iload 4, 2) := by decide +kernel
theorem dX11_spell_36 : decode cX11_spell 36 = .ok (.invokevirtual 264, 3) := by decide +kernel
theorem dX11_spell_39 : decode cX11_spell 39 = .ok (.iload_n 1, 1) := by decide +kernel
theorem dX11_spell_40 : decode cX11_spell 40 = .ok (.iconst 1, 1) := by decide +kernel
theorem dX11_spell_41 : decode cX11_spell 41 = .ok (.if_icmp .ne 7, 3) := by decide +kernel
theorem dX11_spell_44 : decode cX11_spell 44 = .ok (.iconst 1, 1) := by decide +kernel
theorem dX11_spell_45 : decode cX11_spell 45 = .ok (.goto 4, 3) := by decide +kernel
theorem dX11_spell_48 : decode cX11_spell 48 = .ok (.iconst 0, 1) := by decide +kernel
theorem dX11_spell_49 : decode cX11_spell 49 = .ok (.if_icmp .ne 9, 3) := by decide +kernel
theorem dX11_spell_52 : decode cX11_spell 52 = .ok (.iload_n 3, 1) := by decide +kernel
theorem dX11_spell_53 : decode cX11_spell 53 = .ok (.iconst 1, 1) := by decide +kernel
theorem dX11_spell_54 : decode cX11_spell 54 = .ok (.iadd, 1) := by decide +kernel
theorem dX11_spell_55 : decode cX11_spell 55 = .ok (.goto 4, 3) := by decide +kernel
theorem dX11_spell_58 : decode cX11_spell 58 = .ok (.iconst 0, 1) := by decide +kernel
theorem dX11_spell_59 : decode cX11_spell 59 = .ok (.istore_n 3, 1) := by decide +kernel
theorem dX11_spell_60 : decode cX11_spell 60 = .ok (.iload_n 2, 1) := by decide +kernel
theorem dX11_spell_61 : decode cX11_spell 61 = .ok (.iload_n 3, 1) := by decide +kernel
theorem dX11_spell_62 : decode cX11_spell 62 = .ok (.invokestatic 341, 3) := by decide +kernel
theorem dX11_spell_65 : decode cX11_spell 65 = .ok (.istore_n 2, 1) := by decide +kernel
theorem dX11_spell_66 : decode cX11_spell 66 = .ok (.iinc 4 1, 3) := by decide +kernel
theorem dX11_spell_69 : decode cX11_spell 69 = .ok (.goto (-47), 3) := by decide +kernel
theorem dX11_spell_72 : decode cX11_spell 72 = .ok (.aload_n 0, 1) := by decide +kernel
theorem dX11_spell_73 : decode cX11_spell 73 = .ok (.iload_n 2, 1) := by decide +kernel
theorem dX11_spell_74 : decode cX11_spell 74 = .ok (.invokevirtual 79, 3) := by decide +kernel
theorem dX11_spell_77 : decode cX11_spell 77 = .ok (.ireturn, 1) := by decide +kernel
abbrev rmX11_spell : Room := { frames := 1, cells := 0, slots := 0, locals := 21 }
set_option maxHeartbeats 4000000 in
set_option maxRecDepth 100000 in
theorem kX11_spell (l : Launch) (D : va_G) (cy : Nat → ClassId) (h0 : Nat) (a0 : Nat → Nat) (s0 : Rc) (p1 : Int32) (res : Int32 × Rc) (h : fX11_spell p1 s0 = some res) : CI l D cy yX11_spell wsX11_spell rmX11_spell [.ref h0, .int p1] (flat [WX11 cy h0 a0 s0]) (flat [WX11 cy h0 a0 res.2]) res.1 := by
  refine CI.of (cc := cX11_spell) (maxL := 5) (by decide) rfl (Nat.le_of_ble_eq_true rfl) ?_
  intro p e s m args below meth c A QQ ls E hr
  obtain ⟨hx, hb, hml, hown, hts, hK, hN, hP, hD, hA, hl⟩ := E
  have hret : ∀ (pc : Nat) (H : Heap) (locs : List Loc) (ls : Array Slot) (u : Int32 × Rc), u = res → va_P D vwCl (flat [WX11 cy h0 a0 u.2]) H → va_D A (flat [WX11 cy h0 a0 u.2]) → va_S A s.heap H locs → decode cX11_spell pc = .ok (.ireturn, 1) → W p l e rmX11_spell s m args below meth c H locs 0 0 QQ (F0 m pc ls [.int u.1]) := by
    intro pc H locs ls u hu hP hD hS hd; subst hu; exact hr pc H locs ls _ rfl hP hD hS hd
  clear hr
  have hl : lv_has ls 5 [(0, .ref h0), (1, .int p1)] := hl
  have hinX11 : ∀ w ∈ wsX110, w ∈ wsX11_spell := fun _ h => List.mem_cons_of_mem _ (List.mem_append_right _ h)
  unfold fX11_spell at h
  suffices key : ∀ (H : Heap) (locs : List Loc), va_P D vwCl (flat [WX11 cy h0 a0 s0]) H → va_S A s.heap H locs → W p l e rmX11_spell s m args below meth c H locs 0 0 QQ (F0 m 0 ls []) from key _ _ hP va_S.rf
  clear hP
  intro H locs hP hS
  refine lv_iload_n hx hb dX11_spell_0 rfl (lv_at hl 1 rfl) ?_
  refine lv_if_lt (tgt := 9) hx hb dX11_spell_1 (by decide) (fun c1 => ?_) (fun c1 => ?_)
  · replace h := (if_pos c1).symm.trans h
    refine lv_aload_n hx hb dX11_spell_9 rfl (lv_at hl 0 rfl) ?_
    refine lv_iconst (v := 1) hx hb dX11_spell_10 (by decide) ?_
    obtain ⟨r2, hr2, h⟩ := lt_elim h
    refine ca_i (w' := [WX11 cy h0 a0 r2.2]) (rn_V (As := [.int (1 : Int32)]) (rest := []) ⟨hx, hb, hml, hown, hts⟩ (kX11_refuse l D cy h0 a0 s0 (1 : Int32) r2 hr2.symm H.size) (cwV 1 hts gX11_spell_X11_refuse rfl rfl rfl (by decide +kernel) ⟨Nat.le_of_ble_eq_true rfl, Nat.le_of_ble_eq_true rfl⟩) hK hN hP hD [0] rfl rfl (ci := 11) (q0 := 0) rfl rfl rfl rfl hl.1 rfl (Nat.le_of_ble_eq_true rfl) dX11_spell_11 ⟨Nat.le_refl 0, Nat.le_refl 0⟩) hP hD hS hA [0] ⟨rfl, rfl, rfl, rfl⟩ (fun H locs hP hD hS => ?_)
    exact hret 14 H locs ls (r2.1, r2.2) (Option.some.inj h) hP hD hS dX11_spell_14
  · replace h := (if_neg c1).symm.trans h
    refine lv_iload_n hx hb dX11_spell_4 rfl (lv_at hl 1 rfl) ?_
    refine lv_iconst (v := 1) hx hb dX11_spell_5 (by decide) ?_
    refine lv_icmp_le (tgt := 15) hx hb dX11_spell_6 (by decide) (fun c3 => ?_) (fun c3 => ?_)
    · replace h := (if_pos c3).symm.trans h
      refine lv_iconst (v := 0) hx hb dX11_spell_15 (by decide) ?_
      refine lv_istore_n (lv' := [(2, .int (0 : Int32)), (0, .ref h0), (1, .int p1)]) hx hb dX11_spell_16 rfl hl (by decide) rfl (fun ls hl => ?_)
      refine lv_iconst (v := 0) hx hb dX11_spell_17 (by decide) ?_
      refine lv_istore_n (lv' := [(3, .int (0 : Int32)), (2, .int (0 : Int32)), (0, .ref h0), (1, .int p1)]) hx hb dX11_spell_18 rfl hl (by decide) rfl (fun ls hl => ?_)
      refine lv_iconst (v := 0) hx hb dX11_spell_19 (by decide) ?_
      refine lv_istore (lv' := [(4, .int (0 : Int32)), (3, .int (0 : Int32)), (2, .int (0 : Int32)), (0, .ref h0), (1, .int p1)]) hx hb dX11_spell_20 hl (by decide) rfl (fun ls hl => ?_)
      have L22 : ∀ (n : Nat) (q22 : Int32 × Int32 × Int32) (o : Int32), loopO (fX11_spell_L22 p1 s0) n q22 = some o → ∀ (H : Heap) (locs : List Loc) (ls : Array Slot), lv_has ls 5 [(0, .ref h0), (1, .int p1), (2, .int q22.1), (3, .int q22.2.1), (4, .int q22.2.2)] → va_P D vwCl (flat [WX11 cy h0 a0 s0]) H → va_D A (flat [WX11 cy h0 a0 s0]) → va_S A s.heap H locs → ∀ (kk72 : ∀ (H : Heap) (locs : List Loc) (ls : Array Slot), lv_has ls 5 [(0, .ref h0), (2, .int o)] → va_P D vwCl (flat [WX11 cy h0 a0 s0]) H → va_D A (flat [WX11 cy h0 a0 s0]) → va_S A s.heap H locs → W p l e rmX11_spell s m args below meth c H locs 0 0 QQ (F0 m 72 ls [])), W p l e rmX11_spell s m args below meth c H locs 0 0 QQ (F0 m 22 ls []) := by
        intro n
        induction n with
        | zero => intro q22 o h; exact absurd h (by rw [loopO_zero]; intro z; cases z)
        | succ n ih =>
          intro q22 o h H locs ls hl hP hD hS kk72
          obtain ⟨w, h, hgo, hst⟩ := loopO_elim h
          unfold fX11_spell_L22 at h
          have J59 : ∀ (z59_0 : Int32) (H : Heap) (locs : List Loc) (ls : Array Slot), lv_has ls 5 [(0, .ref h0), (1, .int p1), (2, .int q22.1), (4, .int q22.2.2)] → va_P D vwCl (flat [WX11 cy h0 a0 s0]) H → va_D A (flat [WX11 cy h0 a0 s0]) → va_S A s.heap H locs → fX11_spell_J59 q22 z59_0 = some w → W p l e rmX11_spell s m args below meth c H locs 0 0 QQ (F0 m 59 ls [.int z59_0]) := by
            intro z59_0 H locs ls hl hP hD hS h
            unfold fX11_spell_J59 at h
            refine lv_istore_n (lv' := [(3, .int z59_0), (0, .ref h0), (1, .int p1), (2, .int q22.1), (4, .int q22.2.2)]) hx hb dX11_spell_59 rfl hl (by decide) rfl (fun ls hl => ?_)
            refine lv_iload_n hx hb dX11_spell_60 rfl (lv_at hl 3 rfl) ?_
            refine lv_iload_n hx hb dX11_spell_61 rfl (lv_at hl 0 rfl) ?_
            refine va_mmax hx hb (hml.trans hl.1.symm) hown (hts (.methodLink RX11 341 Lib.Math.max.name) (List.mem_of_getElem? (i := 2) rfl)) (hts (.static Lib.Math.max.name) (List.mem_of_getElem? (i := 3) rfl)) (hts (.initialized "java/lang/Math") (List.mem_of_getElem? (i := 4) rfl)) (hts (.code Lib.Math.max.name Lib.Math.max.code 2 (some .int)) (List.mem_of_getElem? (i := 5) rfl)) (Nat.le_of_ble_eq_true rfl) (Nat.le_of_ble_eq_true rfl) (Nat.le_refl 0) (Nat.le_refl 0) dX11_spell_62 ?_
            refine lv_topi (fun x4 ex4 => ?_)
            replace h := lt_use h x4 ex4
            refine lv_istore_n (lv' := [(2, .int x4), (3, .int z59_0), (0, .ref h0), (1, .int p1), (4, .int q22.2.2)]) hx hb dX11_spell_65 rfl hl (by decide) rfl (fun ls hl => ?_)
            refine lv_iinc (v := (q22.2.2 + (1 : Int32))) (lv' := [(4, .int (q22.2.2 + (1 : Int32))), (2, .int x4), (3, .int z59_0), (0, .ref h0), (1, .int p1)]) hx hb dX11_spell_66 hl (k := 4) rfl rfl (by decide) rfl (fun ls hl => ?_)
            refine lv_goto (tgt := 22) hx hb dX11_spell_69 (by decide) ?_
            exact ih _ o (hgo _ (Option.some.inj h).symm) H locs ls (lv_sub hl [3, 4, 1, 2, 0] rfl) hP hD hS kk72
          have J49 : ∀ (z49_0 : Int32) (z49_1 : Int32) (H : Heap) (locs : List Loc) (ls : Array Slot), lv_has ls 5 [(0, .ref h0), (1, .int p1), (2, .int q22.1), (3, .int q22.2.1), (4, .int q22.2.2)] → va_P D vwCl (flat [WX11 cy h0 a0 s0]) H → va_D A (flat [WX11 cy h0 a0 s0]) → va_S A s.heap H locs → fX11_spell_J49 q22 z49_0 z49_1 = some w → W p l e rmX11_spell s m args below meth c H locs 0 0 QQ (F0 m 49 ls [.int z49_0, .int z49_1]) := by
            intro z49_0 z49_1 H locs ls hl hP hD hS h
            unfold fX11_spell_J49 at h
            refine lv_icmp_ne (tgt := 58) hx hb dX11_spell_49 (by decide) (fun c5 => ?_) (fun c5 => ?_)
            · replace h := (if_neg c5).symm.trans h
              refine lv_iconst (v := 0) hx hb dX11_spell_58 (by decide) ?_
              exact J59 (0 : Int32) H locs ls (lv_sub hl [0, 1, 2, 4] rfl) hP hD hS h
            · replace h := (if_pos c5).symm.trans h
              refine lv_iload_n hx hb dX11_spell_52 rfl (lv_at hl 3 rfl) ?_
              refine lv_iconst (v := 1) hx hb dX11_spell_53 (by decide) ?_
              refine lv_iadd hx hb dX11_spell_54 ?_
              refine lv_goto (tgt := 59) hx hb dX11_spell_55 (by decide) ?_
              exact J59 (q22.2.1 + (1 : Int32)) H locs ls (lv_sub hl [0, 1, 2, 4] rfl) hP hD hS h
          refine lv_iload hx hb dX11_spell_22 (lv_at hl 4 rfl) ?_
          refine lv_aload_n hx hb dX11_spell_24 rfl (lv_at hl 0 rfl) ?_
          refine va_get (D := D) (ci := 11) (v := .ref (a0 0)) (C := RX11) (T := TX11) (N := 38) hx hb hts hinX11 hown hK hP 0 rfl rfl 0 (by decide) (hts (.fieldLink RX11 7 "KneeBenchModel" "at" "[I") (List.mem_of_getElem? (i := 1) rfl)) (fun _ h9 => h9) rfl dX11_spell_25 ?_
          refine lv_iconst (v := 1) hx hb dX11_spell_28 (by decide) ?_
          refine va_iald hx hb hK hP 1 1 rfl rfl (inb_in (by decide)) dX11_spell_29 ?_
          refine lv_icmp_ge (tgt := 72) hx hb dX11_spell_30 (by decide) (fun c6 => ?_) (fun c6 => ?_)
          · replace h := (if_pos c6).symm.trans h
            have eo := hst _ (Option.some.inj h).symm
            subst eo
            exact kk72 H locs ls (lv_sub hl [0, 2] rfl) hP hD hS
          · replace h := (if_neg c6).symm.trans h
            refine lv_aload_n hx hb dX11_spell_33 rfl (lv_at hl 0 rfl) ?_
            refine lv_iload hx hb dX11_spell_34 (lv_at hl 4 rfl) ?_
            obtain ⟨r7, hr7, h⟩ := bd_elim h
            refine ca_z (w' := [WX11 cy h0 a0 s0]) (rn_V (As := [.int q22.2.2]) (rest := []) ⟨hx, hb, hml, hown, hts⟩ (kX11_isWet l D cy h0 a0 s0 q22.2.2 r7 hr7 H.size) (cwV 1 hts gX11_spell_X11_isWet rfl rfl rfl (by decide +kernel) ⟨Nat.le_of_ble_eq_true rfl, Nat.le_of_ble_eq_true rfl⟩) hK hN hP hD [0] rfl rfl (ci := 11) (q0 := 0) rfl rfl rfl rfl hl.1 rfl (Nat.le_of_ble_eq_true rfl) dX11_spell_36 ⟨Nat.le_refl 0, Nat.le_refl 0⟩) hP hD hS hA [0] ⟨rfl, rfl, rfl, rfl⟩ (fun b8 H locs hP hD hS => ?_)
            refine lv_iload_n hx hb dX11_spell_39 rfl (lv_at hl 1 rfl) ?_
            refine lv_iconst (v := 1) hx hb dX11_spell_40 (by decide) ?_
            refine lv_icmp_ne (tgt := 48) hx hb dX11_spell_41 (by decide) (fun c9 => ?_) (fun c9 => ?_)
            · replace h := (if_neg c9).symm.trans h
              refine lv_iconst (v := 0) hx hb dX11_spell_48 (by decide) ?_
              exact J49 (0 : Int32) r7 H locs ls (lv_sub hl [0, 1, 2, 3, 4] rfl) hP hD hS h
            · replace h := (if_pos c9).symm.trans h
              refine lv_iconst (v := 1) hx hb dX11_spell_44 (by decide) ?_
              refine lv_goto (tgt := 49) hx hb dX11_spell_45 (by decide) ?_
              exact J49 (1 : Int32) r7 H locs ls (lv_sub hl [0, 1, 2, 3, 4] rfl) hP hD hS h
      obtain ⟨o22, ho22, h⟩ := bd_elim h
      obtain ⟨n22, hn22⟩ := loopF_some ho22
      refine L22 n22 _ o22 hn22 H locs ls (lv_sub hl [3, 4, 2, 1, 0] rfl) hP hD hS (fun H locs ls hl hP hD hS => ?_)
      refine lv_aload_n hx hb dX11_spell_72 rfl (lv_at hl 0 rfl) ?_
      refine lv_iload_n hx hb dX11_spell_73 rfl (lv_at hl 1 rfl) ?_
      obtain ⟨r10, hr10, h⟩ := lt_elim h
      refine ca_i (w' := [WX11 cy h0 a0 r10.2]) (rn_V (As := [.int o22]) (rest := []) ⟨hx, hb, hml, hown, hts⟩ (kX11_gives l D cy h0 a0 s0 o22 r10 hr10.symm H.size) (cwV 1 hts gX11_spell_X11_gives rfl rfl rfl (by decide +kernel) ⟨Nat.le_of_ble_eq_true rfl, Nat.le_of_ble_eq_true rfl⟩) hK hN hP hD [0] rfl rfl (ci := 11) (q0 := 0) rfl rfl rfl rfl hl.1 rfl (Nat.le_of_ble_eq_true rfl) dX11_spell_74 ⟨Nat.le_refl 0, Nat.le_refl 0⟩) hP hD hS hA [0] ⟨rfl, rfl, rfl, rfl⟩ (fun H locs hP hD hS => ?_)
      exact hret 77 H locs ls (r10.1, r10.2) (Option.some.inj h) hP hD hS dX11_spell_77
    · replace h := (if_neg c3).symm.trans h
      refine lv_aload_n hx hb dX11_spell_9 rfl (lv_at hl 0 rfl) ?_
      refine lv_iconst (v := 1) hx hb dX11_spell_10 (by decide) ?_
      obtain ⟨r11, hr11, h⟩ := lt_elim h
      refine ca_i (w' := [WX11 cy h0 a0 r11.2]) (rn_V (As := [.int (1 : Int32)]) (rest := []) ⟨hx, hb, hml, hown, hts⟩ (kX11_refuse l D cy h0 a0 s0 (1 : Int32) r11 hr11.symm H.size) (cwV 1 hts gX11_spell_X11_refuse rfl rfl rfl (by decide +kernel) ⟨Nat.le_of_ble_eq_true rfl, Nat.le_of_ble_eq_true rfl⟩) hK hN hP hD [0] rfl rfl (ci := 11) (q0 := 0) rfl rfl rfl rfl hl.1 rfl (Nat.le_of_ble_eq_true rfl) dX11_spell_11 ⟨Nat.le_refl 0, Nat.le_refl 0⟩) hP hD hS hA [0] ⟨rfl, rfl, rfl, rfl⟩ (fun H locs hP hD hS => ?_)
      exact hret 14 H locs ls (r11.1, r11.2) (Option.some.inj h) hP hD hS dX11_spell_14
theorem gd_X11_stairs : wsX11_stairs.all goodWord = true := by decide +kernel
set_option maxRecDepth 20000 in
theorem ggX11_stairs_X11_isFarmer : GoodIn wsX11_stairs wsX11_isFarmer := goodIn_by gd_X11_stairs (List.forall_mem_cons.mpr ⟨List.mem_cons_of_mem _ (List.mem_append_left _ (List.mem_append_left _ (List.mem_of_getElem? (i := 8) rfl))), List.forall_mem_append.mpr ⟨List.forall_mem_cons.mpr ⟨List.mem_cons_of_mem _ (List.mem_append_left _ (List.mem_append_left _ (List.mem_of_getElem? (i := 2) rfl))), nowords_in⟩, (fun _ h => List.mem_cons_of_mem _ (List.mem_append_right _ (h)))⟩⟩)
set_option maxRecDepth 20000 in
theorem gX11_stairs_X11_isFarmer : GoodIn wsX11_stairs (wsV RX11 267 RX11 yX11_isFarmer wsX11_isFarmer) := goodIn_app (goodIn_by gd_X11_stairs (List.forall_mem_cons.mpr ⟨List.mem_cons_of_mem _ (List.mem_append_left _ (List.mem_append_left _ (List.mem_of_getElem? (i := 4) rfl))), List.forall_mem_cons.mpr ⟨List.mem_cons_of_mem _ (List.mem_append_left _ (List.mem_append_left _ (List.mem_of_getElem? (i := 5) rfl))), List.forall_mem_cons.mpr ⟨List.mem_cons_of_mem _ (List.mem_append_left _ (List.mem_append_left _ (List.mem_of_getElem? (i := 6) rfl))), List.forall_mem_cons.mpr ⟨List.mem_cons_of_mem _ (List.mem_append_left _ (List.mem_append_left _ (List.mem_of_getElem? (i := 7) rfl))), nowords_in⟩⟩⟩⟩)) ggX11_stairs_X11_isFarmer
set_option maxRecDepth 20000 in
theorem ggX11_stairs_X11_isTray : GoodIn wsX11_stairs wsX11_isTray := goodIn_by gd_X11_stairs (List.forall_mem_cons.mpr ⟨List.mem_cons_of_mem _ (List.mem_append_left _ (List.mem_append_left _ (List.mem_of_getElem? (i := 11) rfl))), nowords_in⟩)
set_option maxRecDepth 20000 in
theorem gX11_stairs_X11_isTray : GoodIn wsX11_stairs (va_wsS RX11 86 yX11_isTray wsX11_isTray) := goodIn_app (goodIn_by gd_X11_stairs (List.forall_mem_cons.mpr ⟨List.mem_cons_of_mem _ (List.mem_append_left _ (List.mem_append_left _ (List.mem_of_getElem? (i := 9) rfl))), List.forall_mem_cons.mpr ⟨List.mem_cons_of_mem _ (List.mem_append_left _ (List.mem_append_left _ (List.mem_of_getElem? (i := 10) rfl))), List.forall_mem_cons.mpr ⟨List.mem_cons_of_mem _ (List.mem_append_left _ (List.mem_append_left _ (List.mem_of_getElem? (i := 7) rfl))), nowords_in⟩⟩⟩)) ggX11_stairs_X11_isTray
set_option maxRecDepth 20000 in
theorem ggX11_stairs_X11_isFrom : GoodIn wsX11_stairs wsX11_isFrom := goodIn_by gd_X11_stairs (List.forall_mem_cons.mpr ⟨List.mem_cons_of_mem _ (List.mem_append_left _ (List.mem_append_left _ (List.mem_of_getElem? (i := 14) rfl))), nowords_in⟩)
set_option maxRecDepth 20000 in
theorem gX11_stairs_X11_isFrom : GoodIn wsX11_stairs (va_wsS RX11 282 yX11_isFrom wsX11_isFrom) := goodIn_app (goodIn_by gd_X11_stairs (List.forall_mem_cons.mpr ⟨List.mem_cons_of_mem _ (List.mem_append_left _ (List.mem_append_left _ (List.mem_of_getElem? (i := 12) rfl))), List.forall_mem_cons.mpr ⟨List.mem_cons_of_mem _ (List.mem_append_left _ (List.mem_append_left _ (List.mem_of_getElem? (i := 13) rfl))), List.forall_mem_cons.mpr ⟨List.mem_cons_of_mem _ (List.mem_append_left _ (List.mem_append_left _ (List.mem_of_getElem? (i := 7) rfl))), nowords_in⟩⟩⟩)) ggX11_stairs_X11_isFrom
set_option maxRecDepth 20000 in
theorem ggX11_stairs_X11_refuse : GoodIn wsX11_stairs wsX11_refuse := goodIn_by gd_X11_stairs (List.forall_mem_cons.mpr ⟨List.mem_cons_of_mem _ (List.mem_append_left _ (List.mem_append_left _ (List.mem_of_getElem? (i := 18) rfl))), List.forall_mem_append.mpr ⟨List.forall_mem_cons.mpr ⟨List.mem_cons_of_mem _ (List.mem_append_left _ (List.mem_append_left _ (List.mem_of_getElem? (i := 19) rfl))), nowords_in⟩, (fun _ h => List.mem_cons_of_mem _ (List.mem_append_right _ (h)))⟩⟩)
set_option maxRecDepth 20000 in
theorem gX11_stairs_X11_refuse : GoodIn wsX11_stairs (wsV RX11 75 RX11 yX11_refuse wsX11_refuse) := goodIn_app (goodIn_by gd_X11_stairs (List.forall_mem_cons.mpr ⟨List.mem_cons_of_mem _ (List.mem_append_left _ (List.mem_append_left _ (List.mem_of_getElem? (i := 15) rfl))), List.forall_mem_cons.mpr ⟨List.mem_cons_of_mem _ (List.mem_append_left _ (List.mem_append_left _ (List.mem_of_getElem? (i := 16) rfl))), List.forall_mem_cons.mpr ⟨List.mem_cons_of_mem _ (List.mem_append_left _ (List.mem_append_left _ (List.mem_of_getElem? (i := 17) rfl))), List.forall_mem_cons.mpr ⟨List.mem_cons_of_mem _ (List.mem_append_left _ (List.mem_append_left _ (List.mem_of_getElem? (i := 7) rfl))), nowords_in⟩⟩⟩⟩)) ggX11_stairs_X11_refuse
set_option maxRecDepth 20000 in
theorem ggX11_stairs_X11_felt : GoodIn wsX11_stairs wsX11_felt := goodIn_by gd_X11_stairs (List.forall_mem_cons.mpr ⟨List.mem_cons_of_mem _ (List.mem_append_left _ (List.mem_append_left _ (List.mem_of_getElem? (i := 23) rfl))), List.forall_mem_append.mpr ⟨List.forall_mem_cons.mpr ⟨List.mem_cons_of_mem _ (List.mem_append_left _ (List.mem_append_left _ (List.mem_of_getElem? (i := 2) rfl))), List.forall_mem_cons.mpr ⟨List.mem_cons_of_mem _ (List.mem_append_left _ (List.mem_append_right _ (List.mem_append_left _ (List.mem_of_getElem? (i := 0) rfl)))), List.forall_mem_cons.mpr ⟨List.mem_cons_of_mem _ (List.mem_append_left _ (List.mem_append_right _ (List.mem_append_left _ (List.mem_of_getElem? (i := 1) rfl)))), List.forall_mem_cons.mpr ⟨List.mem_cons_of_mem _ (List.mem_append_left _ (List.mem_append_left _ (List.mem_of_getElem? (i := 7) rfl))), List.forall_mem_cons.mpr ⟨List.mem_cons_of_mem _ (List.mem_append_left _ (List.mem_append_right _ (List.mem_append_left _ (List.mem_of_getElem? (i := 2) rfl)))), nowords_in⟩⟩⟩⟩⟩, (fun _ h => List.mem_cons_of_mem _ (List.mem_append_right _ (h)))⟩⟩)
set_option maxRecDepth 20000 in
theorem gX11_stairs_X11_felt : GoodIn wsX11_stairs (wsV RX11 313 RX11 yX11_felt wsX11_felt) := goodIn_app (goodIn_by gd_X11_stairs (List.forall_mem_cons.mpr ⟨List.mem_cons_of_mem _ (List.mem_append_left _ (List.mem_append_left _ (List.mem_of_getElem? (i := 20) rfl))), List.forall_mem_cons.mpr ⟨List.mem_cons_of_mem _ (List.mem_append_left _ (List.mem_append_left _ (List.mem_of_getElem? (i := 21) rfl))), List.forall_mem_cons.mpr ⟨List.mem_cons_of_mem _ (List.mem_append_left _ (List.mem_append_left _ (List.mem_of_getElem? (i := 22) rfl))), List.forall_mem_cons.mpr ⟨List.mem_cons_of_mem _ (List.mem_append_left _ (List.mem_append_left _ (List.mem_of_getElem? (i := 7) rfl))), nowords_in⟩⟩⟩⟩)) ggX11_stairs_X11_felt
set_option maxRecDepth 20000 in
theorem ggX11_stairs_X11_shouldFeel : GoodIn wsX11_stairs wsX11_shouldFeel := goodIn_by gd_X11_stairs (List.forall_mem_cons.mpr ⟨List.mem_cons_of_mem _ (List.mem_append_left _ (List.mem_append_right _ (List.mem_append_left _ (List.mem_of_getElem? (i := 6) rfl)))), List.forall_mem_append.mpr ⟨List.forall_mem_cons.mpr ⟨List.mem_cons_of_mem _ (List.mem_append_left _ (List.mem_append_right _ (List.mem_append_left _ (List.mem_of_getElem? (i := 7) rfl)))), List.forall_mem_cons.mpr ⟨List.mem_cons_of_mem _ (List.mem_append_left _ (List.mem_append_right _ (List.mem_append_left _ (List.mem_of_getElem? (i := 8) rfl)))), List.forall_mem_cons.mpr ⟨List.mem_cons_of_mem _ (List.mem_append_left _ (List.mem_append_right _ (List.mem_append_left _ (List.mem_of_getElem? (i := 9) rfl)))), List.forall_mem_cons.mpr ⟨List.mem_cons_of_mem _ (List.mem_append_left _ (List.mem_append_left _ (List.mem_of_getElem? (i := 7) rfl))), List.forall_mem_cons.mpr ⟨List.mem_cons_of_mem _ (List.mem_append_left _ (List.mem_append_right _ (List.mem_append_left _ (List.mem_of_getElem? (i := 10) rfl)))), List.forall_mem_cons.mpr ⟨List.mem_cons_of_mem _ (List.mem_append_left _ (List.mem_append_left _ (List.mem_of_getElem? (i := 2) rfl))), List.forall_mem_cons.mpr ⟨List.mem_cons_of_mem _ (List.mem_append_left _ (List.mem_append_right _ (List.mem_append_left _ (List.mem_of_getElem? (i := 11) rfl)))), List.forall_mem_cons.mpr ⟨List.mem_cons_of_mem _ (List.mem_append_left _ (List.mem_append_right _ (List.mem_append_left _ (List.mem_of_getElem? (i := 12) rfl)))), List.forall_mem_cons.mpr ⟨List.mem_cons_of_mem _ (List.mem_append_left _ (List.mem_append_right _ (List.mem_append_left _ (List.mem_of_getElem? (i := 13) rfl)))), List.forall_mem_cons.mpr ⟨List.mem_cons_of_mem _ (List.mem_append_left _ (List.mem_append_right _ (List.mem_append_left _ (List.mem_of_getElem? (i := 14) rfl)))), List.forall_mem_cons.mpr ⟨List.mem_cons_of_mem _ (List.mem_append_left _ (List.mem_append_right _ (List.mem_append_left _ (List.mem_of_getElem? (i := 15) rfl)))), List.forall_mem_cons.mpr ⟨List.mem_cons_of_mem _ (List.mem_append_left _ (List.mem_append_right _ (List.mem_append_left _ (List.mem_of_getElem? (i := 16) rfl)))), List.forall_mem_cons.mpr ⟨List.mem_cons_of_mem _ (List.mem_append_left _ (List.mem_append_right _ (List.mem_append_left _ (List.mem_of_getElem? (i := 17) rfl)))), List.forall_mem_cons.mpr ⟨List.mem_cons_of_mem _ (List.mem_append_left _ (List.mem_append_right _ (List.mem_append_left _ (List.mem_of_getElem? (i := 18) rfl)))), List.forall_mem_cons.mpr ⟨List.mem_cons_of_mem _ (List.mem_append_left _ (List.mem_append_right _ (List.mem_append_left _ (List.mem_of_getElem? (i := 19) rfl)))), List.forall_mem_cons.mpr ⟨List.mem_cons_of_mem _ (List.mem_append_left _ (List.mem_append_right _ (List.mem_append_left _ (List.mem_of_getElem? (i := 20) rfl)))), List.forall_mem_cons.mpr ⟨List.mem_cons_of_mem _ (List.mem_append_left _ (List.mem_append_right _ (List.mem_append_left _ (List.mem_of_getElem? (i := 21) rfl)))), List.forall_mem_cons.mpr ⟨List.mem_cons_of_mem _ (List.mem_append_left _ (List.mem_append_right _ (List.mem_append_left _ (List.mem_of_getElem? (i := 22) rfl)))), List.forall_mem_cons.mpr ⟨List.mem_cons_of_mem _ (List.mem_append_left _ (List.mem_append_right _ (List.mem_append_left _ (List.mem_of_getElem? (i := 23) rfl)))), List.forall_mem_cons.mpr ⟨List.mem_cons_of_mem _ (List.mem_append_left _ (List.mem_append_right _ (List.mem_append_right _ (List.mem_of_getElem? (i := 0) rfl)))), List.forall_mem_cons.mpr ⟨List.mem_cons_of_mem _ (List.mem_append_left _ (List.mem_append_right _ (List.mem_append_right _ (List.mem_of_getElem? (i := 1) rfl)))), nowords_in⟩⟩⟩⟩⟩⟩⟩⟩⟩⟩⟩⟩⟩⟩⟩⟩⟩⟩⟩⟩⟩, (fun _ h => List.mem_cons_of_mem _ (List.mem_append_right _ (h)))⟩⟩)
set_option maxRecDepth 20000 in
theorem gX11_stairs_X11_shouldFeel : GoodIn wsX11_stairs (wsV RX11 228 RX11 yX11_shouldFeel wsX11_shouldFeel) := goodIn_app (goodIn_by gd_X11_stairs (List.forall_mem_cons.mpr ⟨List.mem_cons_of_mem _ (List.mem_append_left _ (List.mem_append_right _ (List.mem_append_left _ (List.mem_of_getElem? (i := 3) rfl)))), List.forall_mem_cons.mpr ⟨List.mem_cons_of_mem _ (List.mem_append_left _ (List.mem_append_right _ (List.mem_append_left _ (List.mem_of_getElem? (i := 4) rfl)))), List.forall_mem_cons.mpr ⟨List.mem_cons_of_mem _ (List.mem_append_left _ (List.mem_append_right _ (List.mem_append_left _ (List.mem_of_getElem? (i := 5) rfl)))), List.forall_mem_cons.mpr ⟨List.mem_cons_of_mem _ (List.mem_append_left _ (List.mem_append_left _ (List.mem_of_getElem? (i := 7) rfl))), nowords_in⟩⟩⟩⟩)) ggX11_stairs_X11_shouldFeel
set_option maxRecDepth 20000 in
theorem ggX11_stairs_X11_gives : GoodIn wsX11_stairs wsX11_gives := goodIn_by gd_X11_stairs (List.forall_mem_cons.mpr ⟨List.mem_cons_of_mem _ (List.mem_append_left _ (List.mem_append_right _ (List.mem_append_right _ (List.mem_of_getElem? (i := 5) rfl)))), List.forall_mem_append.mpr ⟨List.forall_mem_cons.mpr ⟨List.mem_cons_of_mem _ (List.mem_append_left _ (List.mem_append_left _ (List.mem_of_getElem? (i := 19) rfl))), nowords_in⟩, (fun _ h => List.mem_cons_of_mem _ (List.mem_append_right _ (h)))⟩⟩)
set_option maxRecDepth 20000 in
theorem gX11_stairs_X11_gives : GoodIn wsX11_stairs (wsV RX11 79 RX11 yX11_gives wsX11_gives) := goodIn_app (goodIn_by gd_X11_stairs (List.forall_mem_cons.mpr ⟨List.mem_cons_of_mem _ (List.mem_append_left _ (List.mem_append_right _ (List.mem_append_right _ (List.mem_of_getElem? (i := 2) rfl)))), List.forall_mem_cons.mpr ⟨List.mem_cons_of_mem _ (List.mem_append_left _ (List.mem_append_right _ (List.mem_append_right _ (List.mem_of_getElem? (i := 3) rfl)))), List.forall_mem_cons.mpr ⟨List.mem_cons_of_mem _ (List.mem_append_left _ (List.mem_append_right _ (List.mem_append_right _ (List.mem_of_getElem? (i := 4) rfl)))), List.forall_mem_cons.mpr ⟨List.mem_cons_of_mem _ (List.mem_append_left _ (List.mem_append_left _ (List.mem_of_getElem? (i := 7) rfl))), nowords_in⟩⟩⟩⟩)) ggX11_stairs_X11_gives
theorem dX11_stairs_0 : decode cX11_stairs 0 = .ok (.aload_n 0, 1) := by decide +kernel
theorem dX11_stairs_1 : decode cX11_stairs 1 = .ok (.iload_n 1, 1) := by decide +kernel
theorem dX11_stairs_2 : decode cX11_stairs 2 = .ok (.invokevirtual 267, 3) := by decide +kernel
theorem dX11_stairs_5 : decode cX11_stairs 5 = .ok (.ifCond .eq 22, 3) := by decide +kernel
theorem dX11_stairs_8 : decode cX11_stairs 8 = .ok (.iload_n 2, 1) := by decide +kernel
theorem dX11_stairs_9 : decode cX11_stairs 9 = .ok (.invokestatic 86, 3) := by decide +kernel
theorem dX11_stairs_12 : decode cX11_stairs 12 = .ok (.ifCond .eq 15, 3) := by decide +kernel
theorem dX11_stairs_15 : decode cX11_stairs 15 = .ok (.iload_n 3, 1) := by decide +kernel
theorem dX11_stairs_16 : decode cX11_stairs 16 = .ok (.i2l, 1) := by decide +kernel
theorem dX11_stairs_17 : decode cX11_stairs 17 = .ok (.lconst 1, 1) := by decide +kernel
theorem dX11_stairs_18 : decode cX11_stairs 18 = .ok (.ldc2_w 390, 3) := by decide +kernel
theorem dX11_stairs_21 : decode cX11_stairs 21 = .ok (.invokestatic 282, 3) := by decide +kernel
theorem dX11_stairs_24 : decode cX11_stairs 24 = .ok (.ifCond .ne 9, 3) := by decide +kernel
theorem dX11_stairs_27 : decode cX11_stairs 27 = .ok (.aload_n 0, 1) := by decide +kernel
theorem dX11_stairs_28 : decode cX11_stairs 28 = .ok (.iconst 1, 1) := by decide +kernel
theorem dX11_stairs_29 : decode cX11_stairs 29 = .ok (.invokevirtual 75, 3) := by decide +kernel
theorem dX11_stairs_32 : decode cX11_stairs 32 = .ok (.ireturn, 1) := by decide +kernel
theorem dX11_stairs_33 : decode cX11_stairs 33 = .ok (.aload_n 0, 1) := by decide +kernel
theorem dX11_stairs_34 : decode cX11_stairs 34 = .ok (.getfield 24, 3) := by decide +kernel
theorem dX11_stairs_37 : decode cX11_stairs 37 = .ok (.iload_n 2, 1) := by decide +kernel
theorem dX11_stairs_38 : decode cX11_stairs 38 = .ok (.iaload, 1) := by decide +kernel
theorem dX11_stairs_39 : decode cX11_stairs 39 = .ok (.iconst (-1), 1) := by decide +kernel
theorem dX11_stairs_40 : decode cX11_stairs 40 = .ok (.if_icmp .ne 9, 3) := by decide +kernel
theorem dX11_stairs_43 : decode cX11_stairs 43 = .ok (.aload_n 0, 1) := by decide +kernel
theorem dX11_stairs_44 : decode cX11_stairs 44 = .ok (.iconst 2, 1) := by decide +kernel
theorem dX11_stairs_45 : decode cX11_stairs 45 = .ok (.invokevirtual 75, 3) := by decide +kernel
theorem dX11_stairs_48 : decode cX11_stairs 48 = .ok (.ireturn, 1) := by decide +kernel
theorem dX11_stairs_49 : decode cX11_stairs 49 = .ok (.aload_n 0, 1) := by decide +kernel
theorem dX11_stairs_50 : decode cX11_stairs 50 = .ok (.getfield 24, 3) := by decide +kernel
theorem dX11_stairs_53 : decode cX11_stairs 53 = .ok (.iload_n 2, 1) := by decide +kernel
theorem dX11_stairs_54 : decode cX11_stairs 54 = .ok (.iaload, 1) := by decide +kernel
theorem dX11_stairs_55 : decode cX11_stairs 55 = .ok (.aload_n 0, 1) := by decide +kernel
theorem dX11_stairs_56 : decode cX11_stairs 56 = .ok (.getfield 7, 3) := by decide +kernel
theorem dX11_stairs_59 : decode cX11_stairs 59 = .ok (.iconst 1, 1) := by decide +kernel
theorem dX11_stairs_60 : decode cX11_stairs 60 = .ok (.iaload, 1) := by decide +kernel
theorem dX11_stairs_61 : decode cX11_stairs 61 = .ok (.if_icmp .ge 9, 3) := by decide +kernel
theorem dX11_stairs_64 : decode cX11_stairs 64 = .ok (.aload_n 0, 1) := by decide +kernel
theorem dX11_stairs_65 : decode cX11_stairs 65 = .ok (.iconst 3, 1) := by decide +kernel
theorem dX11_stairs_66 : decode cX11_stairs 66 = .ok (.invokevirtual 75, 3) := by decide +kernel
theorem dX11_stairs_69 : decode cX11_stairs 69 = .ok (.ireturn, 1) := by decide +kernel
theorem dX11_stairs_70 : decode cX11_stairs 70 = .ok (.iconst 0, 1) := by decide +kernel
theorem dX11_stairs_71 : decode cX11_stairs 71 = .ok (.istore 4, 2) := by decide +kernel
theorem dX11_stairs_73 : decode cX11_stairs 73 = .ok (.iload 4, 2) := by decide +kernel
theorem dX11_stairs_75 : decode cX11_stairs 75 = .ok (.aload_n 0, 1) := by decide +kernel
theorem dX11_stairs_76 : decode cX11_stairs 76 = .ok (.getfield 7, 3) := by decide +kernel
theorem dX11_stairs_79 : decode cX11_stairs 79 = .ok (.iconst 1, 1) := by decide +kernel
theorem dX11_stairs_80 : decode cX11_stairs 80 = .ok (.iaload, 1) := by decide +kernel
theorem dX11_stairs_81 : decode cX11_stairs 81 = .ok (.if_icmp .ge 37, 3) := by decide +kernel
theorem dX11_stairs_84 : decode cX11_stairs 84 = .ok (.aload_n 0, 1) := by decide +kernel
theorem dX11_stairs_85 : decode cX11_stairs 85 = .ok (.getfield 27, 3) := by decide +kernel
theorem dX11_stairs_88 : decode cX11_stairs 88 = .ok (.bipush 60, 2) := by decide +kernel
theorem dX11_stairs_90 : decode cX11_stairs 90 = .ok (.iload_n 2, 1) := by decide +kernel
theorem dX11_stairs_91 : decode cX11_stairs 91 = .ok (.imul, 1) := by decide +kernel
theorem dX11_stairs_92 : decode cX11_stairs 92 = .ok (.iload 4, 2) := by decide +kernel
theorem dX11_stairs_94 : decode cX11_stairs 94 = .ok (.iadd, 1) := by decide +kernel
theorem dX11_stairs_95 : decode cX11_stairs 95 = .ok (.laload, 1) := by decide +kernel
theorem dX11_stairs_96 : decode cX11_stairs 96 = .ok (.lconst 0, 1) := by decide +kernel
theorem dX11_stairs_97 : decode cX11_stairs 97 = .ok (.ldc2_w 390, 3) := by decide +kernel
theorem dX11_stairs_100 : decode cX11_stairs 100 = .ok (.invokestatic 282, 3) := by decide +kernel
theorem dX11_stairs_103 : decode cX11_stairs 103 = .ok (.ifCond .ne 9, 3) := by decide +kernel
theorem dX11_stairs_106 : decode cX11_stairs 106 = .ok (.aload_n 0, 1) := by decide +kernel
theorem dX11_stairs_107 : decode cX11_stairs 107 = .ok (.iconst 5, 1) := by decide +kernel
theorem dX11_stairs_108 : decode cX11_stairs 108 = .ok (.invokevirtual 75, 3) := by decide +kernel
theorem dX11_stairs_111 : decode cX11_stairs 111 = .ok (.ireturn, 1) := by decide +kernel
theorem dX11_stairs_112 : decode cX11_stairs 112 = .ok (.iinc 4 1, 3) := by decide +kernel
theorem dX11_stairs_115 : decode cX11_stairs 115 = .ok (.goto (-42), 3) := by decide +kernel
theorem dX11_stairs_118 : decode cX11_stairs 118 = .ok (.iconst 0, 1) := by decide +kernel
theorem dX11_stairs_119 : decode cX11_stairs 119 = .ok (.istore 4, 2) := by decide +kernel
theorem dX11_stairs_121 : decode cX11_stairs 121 = .ok (.iconst 0, 1) := by decide +kernel
theorem dX11_stairs_122 : decode cX11_stairs 122 = .ok (.istore 5, 2) := by decide +kernel
theorem dX11_stairs_124 : decode cX11_stairs 124 = .ok (.iload 5, 2) := by decide +kernel
theorem dX11_stairs_126 : decode cX11_stairs 126 = .ok (.aload_n 0, 1) := by decide +kernel
theorem dX11_stairs_127 : decode cX11_stairs 127 = .ok (.getfield 7, 3) := by decide +kernel
theorem dX11_stairs_130 : decode cX11_stairs 130 = .ok (.iconst 1, 1) := by decide +kernel
theorem dX11_stairs_131 : decode cX11_stairs 131 = .ok (.iaload, 1) := by decide +kernel
theorem dX11_stairs_132 : decode cX11_stairs 132 = .ok (.if_icmp .ge 57, 3) := by decide +kernel
theorem dX11_stairs_135 : decode cX11_stairs 135 = .ok (.iload 4, 2) := by decide +kernel
theorem dX11_stairs_137 : decode cX11_stairs 137 = .ok (.aload_n 0, 1) := by decide +kernel
theorem dX11_stairs_138 : decode cX11_stairs 138 = .ok (.iload_n 1, 1) := by decide +kernel
theorem dX11_stairs_139 : decode cX11_stairs 139 = .ok (.iload 5, 2) := by decide +kernel
theorem dX11_stairs_141 : decode cX11_stairs 141 = .ok (.invokevirtual 313, 3) := by decide +kernel
theorem dX11_stairs_144 : decode cX11_stairs 144 = .ok (.ifCond .eq 35, 3) := by decide +kernel
theorem dX11_stairs_147 : decode cX11_stairs 147 = .ok (.aload_n 0, 1) := by decide +kernel
theorem dX11_stairs_148 : decode cX11_stairs 148 = .ok (.iload_n 1, 1) := by decide +kernel
theorem dX11_stairs_149 : decode cX11_stairs 149 = .ok (.iload 5, 2) := by decide +kernel
theorem dX11_stairs_151 : decode cX11_stairs 151 = .ok (.invokevirtual 228, 3) := by decide +kernel
theorem dX11_stairs_154 : decode cX11_stairs 154 = .ok (.ifCond .ne 25, 3) := by decide +kernel
theorem dX11_stairs_157 : decode cX11_stairs 157 = .ok (.aload_n 0, 1) := by decide +kernel
theorem dX11_stairs_158 : decode cX11_stairs 158 = .ok (.getfield 27, 3) := by decide +kernel
theorem dX11_stairs_161 : decode cX11_stairs 161 = .ok (.bipush 60, 2) := by decide +kernel
theorem dX11_stairs_163 : decode cX11_stairs 163 = .ok (.iload_n 2, 1) := by decide +kernel
theorem dX11_stairs_164 : decode cX11_stairs 164 = .ok (.imul, 1) := by decide +kernel
theorem dX11_stairs_165 : decode cX11_stairs 165 = .ok (.iload 5, 2) := by decide +kernel
theorem dX11_stairs_167 : decode cX11_stairs 167 = .ok (.iadd, 1) := by decide +kernel
theorem dX11_stairs_168 : decode cX11_stairs 168 = .ok (.laload, 1) := by decide +kernel
theorem dX11_stairs_169 : decode cX11_stairs 169 = .ok (.iload_n 3, 1) := by decide +kernel
theorem dX11_stairs_170 : decode cX11_stairs 170 = .ok (.i2l, 1) := by decide +kernel
theorem dX11_stairs_171 : decode cX11_stairs 171 = .ok (.lcmp, 1) := by decide +kernel
theorem dX11_stairs_172 : decode cX11_stairs 172 = .ok (.ifCond .lt 7, 3) := by decide +kernel
theorem dX11_stairs_175 : decode cX11_stairs 175 = .ok (.iconst 1, 1) := by decide +kernel
theorem dX11_stairs_176 : decode cX11_stairs 176 = .ok (.goto 4, 3) := by decide +kernel
theorem dX11_stairs_179 : decode cX11_stairs 179 = .ok (.iconst 0, 1) := by decide +kernel
theorem dX11_stairs_180 : decode cX11_stairs 180 = .ok (.iadd, 1) := by decide +kernel
theorem dX11_stairs_181 : decode cX11_stairs 181 = .ok (.istore 4, 2) := by decide +kernel
theorem dX11_stairs_183 : decode cX11_stairs 183 = .ok (.iinc 5 1, 3) := by decide +kernel
theorem dX11_stairs_186 : decode cX11_stairs 186 = .ok (.goto (-62), 3) := by decide +kernel
theorem dX11_stairs_189 : decode cX11_stairs 189 = .ok (.aload_n 0, 1) := by decide +kernel
theorem dX11_stairs_190 : decode cX11_stairs 190 = .ok (.iload 4, 2) := by decide +kernel
theorem dX11_stairs_192 : decode cX11_stairs 192 = .ok (.invokevirtual 79, 3) := by decide +kernel
theorem dX11_stairs_195 : decode cX11_stairs 195 = .ok (.ireturn, 1) := by decide +kernel
abbrev rmX11_stairs : Room := { frames := 3, cells := 0, slots := 0, locals := 65 }
set_option maxHeartbeats 4000000 in
set_option maxRecDepth 100000 in
theorem kX11_stairs (l : Launch) (D : va_G) (cy : Nat → ClassId) (h0 : Nat) (a0 : Nat → Nat) (s0 : Rc) (p1 : Int32) (p2 : Int32) (p3 : Int32) (res : Int32 × Rc) (h : fX11_stairs p1 p2 p3 s0 = some res) : CI l D cy yX11_stairs wsX11_stairs rmX11_stairs [.ref h0, .int p1, .int p2, .int p3] (flat [WX11 cy h0 a0 s0]) (flat [WX11 cy h0 a0 res.2]) res.1 := by
  refine CI.of (cc := cX11_stairs) (maxL := 6) (by decide) rfl (Nat.le_of_ble_eq_true rfl) ?_
  intro p e s m args below meth c A QQ ls E hr
  obtain ⟨hx, hb, hml, hown, hts, hK, hN, hP, hD, hA, hl⟩ := E
  have hret : ∀ (pc : Nat) (H : Heap) (locs : List Loc) (ls : Array Slot) (u : Int32 × Rc), u = res → va_P D vwCl (flat [WX11 cy h0 a0 u.2]) H → va_D A (flat [WX11 cy h0 a0 u.2]) → va_S A s.heap H locs → decode cX11_stairs pc = .ok (.ireturn, 1) → W p l e rmX11_stairs s m args below meth c H locs 0 0 QQ (F0 m pc ls [.int u.1]) := by
    intro pc H locs ls u hu hP hD hS hd; subst hu; exact hr pc H locs ls _ rfl hP hD hS hd
  clear hr
  have hl : lv_has ls 6 [(0, .ref h0), (1, .int p1), (2, .int p2), (3, .int p3)] := hl
  have hinX11 : ∀ w ∈ wsX110, w ∈ wsX11_stairs := fun _ h => List.mem_cons_of_mem _ (List.mem_append_right _ h)
  unfold fX11_stairs at h
  suffices key : ∀ (H : Heap) (locs : List Loc), va_P D vwCl (flat [WX11 cy h0 a0 s0]) H → va_S A s.heap H locs → W p l e rmX11_stairs s m args below meth c H locs 0 0 QQ (F0 m 0 ls []) from key _ _ hP va_S.rf
  clear hP
  intro H locs hP hS
  refine lv_aload_n hx hb dX11_stairs_0 rfl (lv_at hl 0 rfl) ?_
  refine lv_iload_n hx hb dX11_stairs_1 rfl (lv_at hl 1 rfl) ?_
  refine ca_z (w' := [WX11 cy h0 a0 s0]) (rn_V (As := [.int p1]) (rest := []) ⟨hx, hb, hml, hown, hts⟩ (kX11_isFarmer l D cy h0 a0 s0 p1 _ rfl H.size) (cwV 1 hts gX11_stairs_X11_isFarmer rfl rfl rfl (by decide +kernel) ⟨Nat.le_of_ble_eq_true rfl, Nat.le_of_ble_eq_true rfl⟩) hK hN hP hD [0] rfl rfl (ci := 11) (q0 := 0) rfl rfl rfl rfl hl.1 rfl (Nat.le_of_ble_eq_true rfl) dX11_stairs_2 ⟨Nat.le_refl 0, Nat.le_refl 0⟩) hP hD hS hA [0] ⟨rfl, rfl, rfl, rfl⟩ (fun b1 H locs hP hD hS => ?_)
  refine lv_if_eq (tgt := 27) hx hb dX11_stairs_5 (by decide) (fun c2 => ?_) (fun c2 => ?_)
  · replace h := (if_pos c2).symm.trans h
    refine lv_aload_n hx hb dX11_stairs_27 rfl (lv_at hl 0 rfl) ?_
    refine lv_iconst (v := 1) hx hb dX11_stairs_28 (by decide) ?_
    obtain ⟨r3, hr3, h⟩ := lt_elim h
    refine ca_i (w' := [WX11 cy h0 a0 r3.2]) (rn_V (As := [.int (1 : Int32)]) (rest := []) ⟨hx, hb, hml, hown, hts⟩ (kX11_refuse l D cy h0 a0 s0 (1 : Int32) r3 hr3.symm H.size) (cwV 1 hts gX11_stairs_X11_refuse rfl rfl rfl (by decide +kernel) ⟨Nat.le_of_ble_eq_true rfl, Nat.le_of_ble_eq_true rfl⟩) hK hN hP hD [0] rfl rfl (ci := 11) (q0 := 0) rfl rfl rfl rfl hl.1 rfl (Nat.le_of_ble_eq_true rfl) dX11_stairs_29 ⟨Nat.le_refl 0, Nat.le_refl 0⟩) hP hD hS hA [0] ⟨rfl, rfl, rfl, rfl⟩ (fun H locs hP hD hS => ?_)
    exact hret 32 H locs ls (r3.1, r3.2) (Option.some.inj h) hP hD hS dX11_stairs_32
  · replace h := (if_neg c2).symm.trans h
    refine lv_iload_n hx hb dX11_stairs_8 rfl (lv_at hl 2 rfl) ?_
    refine ca_z (w' := [WX11 cy h0 a0 s0]) (rn_S (As := [.int p2]) (rest := []) ⟨hx, hb, hml, hown, hts⟩ (kX11_isTray l D cy p2 _ rfl H.size) (va_cwS 1 hts gX11_stairs_X11_isTray rfl rfl rfl (by decide +kernel) ⟨Nat.le_of_ble_eq_true rfl, Nat.le_of_ble_eq_true rfl⟩) hK hN hP hD [] rfl rfl rfl hl.1 rfl (Nat.le_of_ble_eq_true rfl) dX11_stairs_9 ⟨Nat.le_refl 0, Nat.le_refl 0⟩) hP hD hS hA [] ⟨rfl, rfl, rfl, rfl⟩ (fun b4 H locs hP hD hS => ?_)
    refine lv_if_eq (tgt := 27) hx hb dX11_stairs_12 (by decide) (fun c5 => ?_) (fun c5 => ?_)
    · replace h := (if_pos c5).symm.trans h
      refine lv_aload_n hx hb dX11_stairs_27 rfl (lv_at hl 0 rfl) ?_
      refine lv_iconst (v := 1) hx hb dX11_stairs_28 (by decide) ?_
      obtain ⟨r6, hr6, h⟩ := lt_elim h
      refine ca_i (w' := [WX11 cy h0 a0 r6.2]) (rn_V (As := [.int (1 : Int32)]) (rest := []) ⟨hx, hb, hml, hown, hts⟩ (kX11_refuse l D cy h0 a0 s0 (1 : Int32) r6 hr6.symm H.size) (cwV 1 hts gX11_stairs_X11_refuse rfl rfl rfl (by decide +kernel) ⟨Nat.le_of_ble_eq_true rfl, Nat.le_of_ble_eq_true rfl⟩) hK hN hP hD [0] rfl rfl (ci := 11) (q0 := 0) rfl rfl rfl rfl hl.1 rfl (Nat.le_of_ble_eq_true rfl) dX11_stairs_29 ⟨Nat.le_refl 0, Nat.le_refl 0⟩) hP hD hS hA [0] ⟨rfl, rfl, rfl, rfl⟩ (fun H locs hP hD hS => ?_)
      exact hret 32 H locs ls (r6.1, r6.2) (Option.some.inj h) hP hD hS dX11_stairs_32
    · replace h := (if_neg c5).symm.trans h
      refine lv_iload_n hx hb dX11_stairs_15 rfl (lv_at hl 3 rfl) ?_
      refine lv_i2l hx hb dX11_stairs_16 rfl ?_
      refine lv_lconst (v := 1) hx hb dX11_stairs_17 (by decide) ?_
      refine lv_ldc2 (v := 999) hx hb hown (hts (.constantLong RX11 390 (999)) (List.mem_of_getElem? (i := 1) rfl)) dX11_stairs_18 ?_
      refine ca_z (w' := [WX11 cy h0 a0 s0]) (rn_S (As := [.long p3.toInt64, .long (1 : Int64), .long (999 : Int64)]) (rest := []) ⟨hx, hb, hml, hown, hts⟩ (kX11_isFrom l D cy p3.toInt64 (1 : Int64) (999 : Int64) _ rfl H.size) (va_cwS 3 hts gX11_stairs_X11_isFrom rfl rfl rfl (by decide +kernel) ⟨Nat.le_of_ble_eq_true rfl, Nat.le_of_ble_eq_true rfl⟩) hK hN hP hD [] rfl rfl rfl hl.1 rfl (Nat.le_of_ble_eq_true rfl) dX11_stairs_21 ⟨Nat.le_refl 0, Nat.le_refl 0⟩) hP hD hS hA [] ⟨rfl, rfl, rfl, rfl⟩ (fun b7 H locs hP hD hS => ?_)
      refine lv_if_ne (tgt := 33) hx hb dX11_stairs_24 (by decide) (fun c8 => ?_) (fun c8 => ?_)
      · replace h := (if_neg c8).symm.trans h
        refine lv_aload_n hx hb dX11_stairs_33 rfl (lv_at hl 0 rfl) ?_
        refine va_get (D := D) (ci := 11) (v := .ref (a0 6)) (C := RX11) (T := TX11) (N := 38) hx hb hts hinX11 hown hK hP 0 rfl rfl 6 (by decide) (hts (.fieldLink RX11 24 "KneeBenchModel" "trayMany" "[I") (List.mem_of_getElem? (i := 2) rfl)) (fun _ h9 => h9) rfl dX11_stairs_34 ?_
        refine lv_iload_n hx hb dX11_stairs_37 rfl (lv_at hl 2 rfl) ?_
        obtain ⟨g9, h⟩ := gd_elim h
        refine va_iald hx hb hK hP 4 1 rfl rfl (inb_in g9) dX11_stairs_38 ?_
        refine lv_iconst (v := -1) hx hb dX11_stairs_39 (by decide) ?_
        refine lv_icmp_ne (tgt := 49) hx hb dX11_stairs_40 (by decide) (fun c10 => ?_) (fun c10 => ?_)
        · replace h := (if_neg c10).symm.trans h
          refine lv_aload_n hx hb dX11_stairs_49 rfl (lv_at hl 0 rfl) ?_
          refine va_get (D := D) (ci := 11) (v := .ref (a0 6)) (C := RX11) (T := TX11) (N := 38) hx hb hts hinX11 hown hK hP 0 rfl rfl 6 (by decide) (hts (.fieldLink RX11 24 "KneeBenchModel" "trayMany" "[I") (List.mem_of_getElem? (i := 2) rfl)) (fun _ h9 => h9) rfl dX11_stairs_50 ?_
          refine lv_iload_n hx hb dX11_stairs_53 rfl (lv_at hl 2 rfl) ?_
          refine va_iald hx hb hK hP 4 1 rfl rfl (inb_in g9) dX11_stairs_54 ?_
          refine lv_aload_n hx hb dX11_stairs_55 rfl (lv_at hl 0 rfl) ?_
          refine va_get (D := D) (ci := 11) (v := .ref (a0 0)) (C := RX11) (T := TX11) (N := 38) hx hb hts hinX11 hown hK hP 0 rfl rfl 0 (by decide) (hts (.fieldLink RX11 7 "KneeBenchModel" "at" "[I") (List.mem_of_getElem? (i := 3) rfl)) (fun _ h9 => h9) rfl dX11_stairs_56 ?_
          refine lv_iconst (v := 1) hx hb dX11_stairs_59 (by decide) ?_
          refine va_iald hx hb hK hP 1 1 rfl rfl (inb_in (by decide)) dX11_stairs_60 ?_
          refine lv_icmp_ge (tgt := 70) hx hb dX11_stairs_61 (by decide) (fun c11 => ?_) (fun c11 => ?_)
          · replace h := (if_pos c11).symm.trans h
            refine lv_iconst (v := 0) hx hb dX11_stairs_70 (by decide) ?_
            refine lv_istore (lv' := [(4, .int (0 : Int32)), (0, .ref h0), (1, .int p1), (2, .int p2), (3, .int p3)]) hx hb dX11_stairs_71 hl (by decide) rfl (fun ls hl => ?_)
            have L73 : ∀ (n : Nat) (q73 : Int32) (o : (Unit) ⊕ (Unit)), loopO (fX11_stairs_L73 p2 s0) n q73 = some o → ∀ (H : Heap) (locs : List Loc) (ls : Array Slot), lv_has ls 6 [(0, .ref h0), (1, .int p1), (2, .int p2), (3, .int p3), (4, .int q73)] → va_P D vwCl (flat [WX11 cy h0 a0 s0]) H → va_D A (flat [WX11 cy h0 a0 s0]) → va_S A s.heap H locs → ∀ (kk106 : ∀ v : Unit, o = (.inl v) → ∀ (H : Heap) (locs : List Loc) (ls : Array Slot), lv_has ls 6 [(0, .ref h0)] → va_P D vwCl (flat [WX11 cy h0 a0 s0]) H → va_D A (flat [WX11 cy h0 a0 s0]) → va_S A s.heap H locs → W p l e rmX11_stairs s m args below meth c H locs 0 0 QQ (F0 m 106 ls [])) (kk118 : ∀ v : Unit, o = (.inr v) → ∀ (H : Heap) (locs : List Loc) (ls : Array Slot), lv_has ls 6 [(0, .ref h0), (1, .int p1), (2, .int p2), (3, .int p3)] → va_P D vwCl (flat [WX11 cy h0 a0 s0]) H → va_D A (flat [WX11 cy h0 a0 s0]) → va_S A s.heap H locs → W p l e rmX11_stairs s m args below meth c H locs 0 0 QQ (F0 m 118 ls [])), W p l e rmX11_stairs s m args below meth c H locs 0 0 QQ (F0 m 73 ls []) := by
              intro n
              induction n with
              | zero => intro q73 o h; exact absurd h (by rw [loopO_zero]; intro z; cases z)
              | succ n ih =>
                intro q73 o h H locs ls hl hP hD hS kk106 kk118
                obtain ⟨w, h, hgo, hst⟩ := loopO_elim h
                unfold fX11_stairs_L73 at h
                refine lv_iload hx hb dX11_stairs_73 (lv_at hl 4 rfl) ?_
                refine lv_aload_n hx hb dX11_stairs_75 rfl (lv_at hl 0 rfl) ?_
                refine va_get (D := D) (ci := 11) (v := .ref (a0 0)) (C := RX11) (T := TX11) (N := 38) hx hb hts hinX11 hown hK hP 0 rfl rfl 0 (by decide) (hts (.fieldLink RX11 7 "KneeBenchModel" "at" "[I") (List.mem_of_getElem? (i := 3) rfl)) (fun _ h9 => h9) rfl dX11_stairs_76 ?_
                refine lv_iconst (v := 1) hx hb dX11_stairs_79 (by decide) ?_
                refine va_iald hx hb hK hP 1 1 rfl rfl (inb_in (by decide)) dX11_stairs_80 ?_
                refine lv_icmp_ge (tgt := 118) hx hb dX11_stairs_81 (by decide) (fun c12 => ?_) (fun c12 => ?_)
                · replace h := (if_pos c12).symm.trans h
                  have eo := hst _ (Option.some.inj h).symm
                  exact kk118 _ eo.symm H locs ls (lv_sub hl [0, 1, 2, 3] rfl) hP hD hS
                · replace h := (if_neg c12).symm.trans h
                  refine lv_aload_n hx hb dX11_stairs_84 rfl (lv_at hl 0 rfl) ?_
                  refine va_get (D := D) (ci := 11) (v := .ref (a0 7)) (C := RX11) (T := TX11) (N := 38) hx hb hts hinX11 hown hK hP 0 rfl rfl 7 (by decide) (hts (.fieldLink RX11 27 "KneeBenchModel" "trays" "[J") (List.mem_of_getElem? (i := 4) rfl)) (fun _ h9 => h9) rfl dX11_stairs_85 ?_
                  refine lv_bipush (v := 60) hx hb dX11_stairs_88 (by decide) ?_
                  refine lv_iload_n hx hb dX11_stairs_90 rfl (lv_at hl 2 rfl) ?_
                  refine lv_imul hx hb dX11_stairs_91 ?_
                  refine lv_iload hx hb dX11_stairs_92 (lv_at hl 4 rfl) ?_
                  refine lv_iadd hx hb dX11_stairs_94 ?_
                  obtain ⟨g13, h⟩ := gd_elim h
                  refine va_lald hx hb hK hP 5 2 rfl rfl (inb_in g13) dX11_stairs_95 ?_
                  refine lv_lconst (v := 0) hx hb dX11_stairs_96 (by decide) ?_
                  refine lv_ldc2 (v := 999) hx hb hown (hts (.constantLong RX11 390 (999)) (List.mem_of_getElem? (i := 1) rfl)) dX11_stairs_97 ?_
                  refine ca_z (w' := [WX11 cy h0 a0 s0]) (rn_S (As := [.long (gb s0 7 (((60 : Int32) * p2) + q73).toNatClampNeg), .long (0 : Int64), .long (999 : Int64)]) (rest := []) ⟨hx, hb, hml, hown, hts⟩ (kX11_isFrom l D cy (gb s0 7 (((60 : Int32) * p2) + q73).toNatClampNeg) (0 : Int64) (999 : Int64) _ rfl H.size) (va_cwS 3 hts gX11_stairs_X11_isFrom rfl rfl rfl (by decide +kernel) ⟨Nat.le_of_ble_eq_true rfl, Nat.le_of_ble_eq_true rfl⟩) hK hN hP hD [] rfl rfl rfl hl.1 rfl (Nat.le_of_ble_eq_true rfl) dX11_stairs_100 ⟨Nat.le_refl 0, Nat.le_refl 0⟩) hP hD hS hA [] ⟨rfl, rfl, rfl, rfl⟩ (fun b14 H locs hP hD hS => ?_)
                  refine lv_if_ne (tgt := 112) hx hb dX11_stairs_103 (by decide) (fun c15 => ?_) (fun c15 => ?_)
                  · replace h := (if_neg c15).symm.trans h
                    refine lv_iinc (v := (q73 + (1 : Int32))) (lv' := [(4, .int (q73 + (1 : Int32))), (0, .ref h0), (1, .int p1), (2, .int p2), (3, .int p3)]) hx hb dX11_stairs_112 hl (k := 4) rfl rfl (by decide) rfl (fun ls hl => ?_)
                    refine lv_goto (tgt := 73) hx hb dX11_stairs_115 (by decide) ?_
                    exact ih _ o (hgo _ (Option.some.inj h).symm) H locs ls (lv_sub hl [1, 2, 3, 4, 0] rfl) hP hD hS kk106 kk118
                  · replace h := (if_pos c15).symm.trans h
                    have eo := hst _ (Option.some.inj h).symm
                    exact kk106 _ eo.symm H locs ls (lv_sub hl [0] rfl) hP hD hS
            obtain ⟨o73, ho73, h⟩ := bd_elim h
            obtain ⟨n73, hn73⟩ := loopF_some ho73
            refine L73 n73 _ o73 hn73 H locs ls (lv_sub hl [1, 2, 3, 4, 0] rfl) hP hD hS (fun o73a eo H locs ls hl hP hD hS => ?_) (fun o73b eo H locs ls hl hP hD hS => ?_)
            · subst eo
              rw [Sum.elim_inl] at h
              refine lv_aload_n hx hb dX11_stairs_106 rfl (lv_at hl 0 rfl) ?_
              refine lv_iconst (v := 5) hx hb dX11_stairs_107 (by decide) ?_
              obtain ⟨r16, hr16, h⟩ := lt_elim h
              refine ca_i (w' := [WX11 cy h0 a0 r16.2]) (rn_V (As := [.int (5 : Int32)]) (rest := []) ⟨hx, hb, hml, hown, hts⟩ (kX11_refuse l D cy h0 a0 s0 (5 : Int32) r16 hr16.symm H.size) (cwV 1 hts gX11_stairs_X11_refuse rfl rfl rfl (by decide +kernel) ⟨Nat.le_of_ble_eq_true rfl, Nat.le_of_ble_eq_true rfl⟩) hK hN hP hD [0] rfl rfl (ci := 11) (q0 := 0) rfl rfl rfl rfl hl.1 rfl (Nat.le_of_ble_eq_true rfl) dX11_stairs_108 ⟨Nat.le_refl 0, Nat.le_refl 0⟩) hP hD hS hA [0] ⟨rfl, rfl, rfl, rfl⟩ (fun H locs hP hD hS => ?_)
              exact hret 111 H locs ls (r16.1, r16.2) (Option.some.inj h) hP hD hS dX11_stairs_111
            · subst eo
              rw [Sum.elim_inr] at h
              refine lv_iconst (v := 0) hx hb dX11_stairs_118 (by decide) ?_
              refine lv_istore (lv' := [(4, .int (0 : Int32)), (0, .ref h0), (1, .int p1), (2, .int p2), (3, .int p3)]) hx hb dX11_stairs_119 hl (by decide) rfl (fun ls hl => ?_)
              refine lv_iconst (v := 0) hx hb dX11_stairs_121 (by decide) ?_
              refine lv_istore (lv' := [(5, .int (0 : Int32)), (4, .int (0 : Int32)), (0, .ref h0), (1, .int p1), (2, .int p2), (3, .int p3)]) hx hb dX11_stairs_122 hl (by decide) rfl (fun ls hl => ?_)
              have L124 : ∀ (n : Nat) (q124 : Int32 × Int32) (o : Int32), loopO (fX11_stairs_L124 p1 p2 p3 s0) n q124 = some o → ∀ (H : Heap) (locs : List Loc) (ls : Array Slot), lv_has ls 6 [(0, .ref h0), (1, .int p1), (2, .int p2), (3, .int p3), (4, .int q124.1), (5, .int q124.2)] → va_P D vwCl (flat [WX11 cy h0 a0 s0]) H → va_D A (flat [WX11 cy h0 a0 s0]) → va_S A s.heap H locs → ∀ (kk189 : ∀ (H : Heap) (locs : List Loc) (ls : Array Slot), lv_has ls 6 [(0, .ref h0), (4, .int o)] → va_P D vwCl (flat [WX11 cy h0 a0 s0]) H → va_D A (flat [WX11 cy h0 a0 s0]) → va_S A s.heap H locs → W p l e rmX11_stairs s m args below meth c H locs 0 0 QQ (F0 m 189 ls [])), W p l e rmX11_stairs s m args below meth c H locs 0 0 QQ (F0 m 124 ls []) := by
                intro n
                induction n with
                | zero => intro q124 o h; exact absurd h (by rw [loopO_zero]; intro z; cases z)
                | succ n ih =>
                  intro q124 o h H locs ls hl hP hD hS kk189
                  obtain ⟨w, h, hgo, hst⟩ := loopO_elim h
                  unfold fX11_stairs_L124 at h
                  refine lv_iload hx hb dX11_stairs_124 (lv_at hl 5 rfl) ?_
                  refine lv_aload_n hx hb dX11_stairs_126 rfl (lv_at hl 0 rfl) ?_
                  refine va_get (D := D) (ci := 11) (v := .ref (a0 0)) (C := RX11) (T := TX11) (N := 38) hx hb hts hinX11 hown hK hP 0 rfl rfl 0 (by decide) (hts (.fieldLink RX11 7 "KneeBenchModel" "at" "[I") (List.mem_of_getElem? (i := 3) rfl)) (fun _ h9 => h9) rfl dX11_stairs_127 ?_
                  refine lv_iconst (v := 1) hx hb dX11_stairs_130 (by decide) ?_
                  refine va_iald hx hb hK hP 1 1 rfl rfl (inb_in (by decide)) dX11_stairs_131 ?_
                  refine lv_icmp_ge (tgt := 189) hx hb dX11_stairs_132 (by decide) (fun c17 => ?_) (fun c17 => ?_)
                  · replace h := (if_pos c17).symm.trans h
                    have eo := hst _ (Option.some.inj h).symm
                    subst eo
                    exact kk189 H locs ls (lv_sub hl [0, 4] rfl) hP hD hS
                  · replace h := (if_neg c17).symm.trans h
                    refine lv_iload hx hb dX11_stairs_135 (lv_at hl 4 rfl) ?_
                    refine lv_aload_n hx hb dX11_stairs_137 rfl (lv_at hl 0 rfl) ?_
                    refine lv_iload_n hx hb dX11_stairs_138 rfl (lv_at hl 1 rfl) ?_
                    refine lv_iload hx hb dX11_stairs_139 (lv_at hl 5 rfl) ?_
                    obtain ⟨r18, hr18, h⟩ := bd_elim h
                    refine ca_z (w' := [WX11 cy h0 a0 s0]) (rn_V (As := [.int p1, .int q124.2]) (rest := [.int q124.1]) ⟨hx, hb, hml, hown, hts⟩ (kX11_felt l D cy h0 a0 s0 p1 q124.2 r18 hr18 H.size) (cwV 2 hts gX11_stairs_X11_felt rfl rfl rfl (by decide +kernel) ⟨Nat.le_of_ble_eq_true rfl, Nat.le_of_ble_eq_true rfl⟩) hK hN hP hD [0] rfl rfl (ci := 11) (q0 := 0) rfl rfl rfl rfl hl.1 rfl (Nat.le_of_ble_eq_true rfl) dX11_stairs_141 ⟨Nat.le_refl 0, Nat.le_refl 0⟩) hP hD hS hA [0] ⟨rfl, rfl, rfl, rfl⟩ (fun b19 H locs hP hD hS => ?_)
                    refine lv_if_eq (tgt := 179) hx hb dX11_stairs_144 (by decide) (fun c20 => ?_) (fun c20 => ?_)
                    · replace h := (if_pos c20).symm.trans h
                      refine lv_iconst (v := 0) hx hb dX11_stairs_179 (by decide) ?_
                      refine lv_iadd hx hb dX11_stairs_180 ?_
                      refine lv_topi (fun x21 ex21 => ?_)
                      replace h := lt_use h x21 ex21
                      refine lv_istore (lv' := [(4, .int x21), (0, .ref h0), (1, .int p1), (2, .int p2), (3, .int p3), (5, .int q124.2)]) hx hb dX11_stairs_181 hl (by decide) rfl (fun ls hl => ?_)
                      refine lv_iinc (v := (q124.2 + (1 : Int32))) (lv' := [(5, .int (q124.2 + (1 : Int32))), (4, .int x21), (0, .ref h0), (1, .int p1), (2, .int p2), (3, .int p3)]) hx hb dX11_stairs_183 hl (k := 5) rfl rfl (by decide) rfl (fun ls hl => ?_)
                      refine lv_goto (tgt := 124) hx hb dX11_stairs_186 (by decide) ?_
                      exact ih _ o (hgo _ (Option.some.inj h).symm) H locs ls (lv_sub hl [2, 3, 4, 5, 1, 0] rfl) hP hD hS kk189
                    · replace h := (if_neg c20).symm.trans h
                      refine lv_aload_n hx hb dX11_stairs_147 rfl (lv_at hl 0 rfl) ?_
                      refine lv_iload_n hx hb dX11_stairs_148 rfl (lv_at hl 1 rfl) ?_
                      refine lv_iload hx hb dX11_stairs_149 (lv_at hl 5 rfl) ?_
                      obtain ⟨r22, hr22, h⟩ := bd_elim h
                      refine ca_z (w' := [WX11 cy h0 a0 s0]) (rn_V (As := [.int p1, .int q124.2]) (rest := [.int q124.1]) ⟨hx, hb, hml, hown, hts⟩ (kX11_shouldFeel l D cy h0 a0 s0 p1 q124.2 r22 hr22 H.size) (cwV 2 hts gX11_stairs_X11_shouldFeel rfl rfl rfl (by decide +kernel) ⟨Nat.le_of_ble_eq_true rfl, Nat.le_of_ble_eq_true rfl⟩) hK hN hP hD [0] rfl rfl (ci := 11) (q0 := 0) rfl rfl rfl rfl hl.1 rfl (Nat.le_of_ble_eq_true rfl) dX11_stairs_151 ⟨Nat.le_refl 0, Nat.le_refl 0⟩) hP hD hS hA [0] ⟨rfl, rfl, rfl, rfl⟩ (fun b23 H locs hP hD hS => ?_)
                      refine lv_if_ne (tgt := 179) hx hb dX11_stairs_154 (by decide) (fun c24 => ?_) (fun c24 => ?_)
                      · replace h := (if_neg c24).symm.trans h
                        refine lv_iconst (v := 0) hx hb dX11_stairs_179 (by decide) ?_
                        refine lv_iadd hx hb dX11_stairs_180 ?_
                        refine lv_topi (fun x25 ex25 => ?_)
                        replace h := lt_use h x25 ex25
                        refine lv_istore (lv' := [(4, .int x25), (0, .ref h0), (1, .int p1), (2, .int p2), (3, .int p3), (5, .int q124.2)]) hx hb dX11_stairs_181 hl (by decide) rfl (fun ls hl => ?_)
                        refine lv_iinc (v := (q124.2 + (1 : Int32))) (lv' := [(5, .int (q124.2 + (1 : Int32))), (4, .int x25), (0, .ref h0), (1, .int p1), (2, .int p2), (3, .int p3)]) hx hb dX11_stairs_183 hl (k := 5) rfl rfl (by decide) rfl (fun ls hl => ?_)
                        refine lv_goto (tgt := 124) hx hb dX11_stairs_186 (by decide) ?_
                        exact ih _ o (hgo _ (Option.some.inj h).symm) H locs ls (lv_sub hl [2, 3, 4, 5, 1, 0] rfl) hP hD hS kk189
                      · replace h := (if_pos c24).symm.trans h
                        refine lv_aload_n hx hb dX11_stairs_157 rfl (lv_at hl 0 rfl) ?_
                        refine va_get (D := D) (ci := 11) (v := .ref (a0 7)) (C := RX11) (T := TX11) (N := 38) hx hb hts hinX11 hown hK hP 0 rfl rfl 7 (by decide) (hts (.fieldLink RX11 27 "KneeBenchModel" "trays" "[J") (List.mem_of_getElem? (i := 4) rfl)) (fun _ h9 => h9) rfl dX11_stairs_158 ?_
                        refine lv_bipush (v := 60) hx hb dX11_stairs_161 (by decide) ?_
                        refine lv_iload_n hx hb dX11_stairs_163 rfl (lv_at hl 2 rfl) ?_
                        refine lv_imul hx hb dX11_stairs_164 ?_
                        refine lv_iload hx hb dX11_stairs_165 (lv_at hl 5 rfl) ?_
                        refine lv_iadd hx hb dX11_stairs_167 ?_
                        obtain ⟨g26, h⟩ := gd_elim h
                        refine va_lald hx hb hK hP 5 2 rfl rfl (inb_in g26) dX11_stairs_168 ?_
                        refine lv_iload_n hx hb dX11_stairs_169 rfl (lv_at hl 3 rfl) ?_
                        refine lv_i2l hx hb dX11_stairs_170 rfl ?_
                        refine W.lcmp hx hb dX11_stairs_171 ?_
                        refine lv_if_lt (tgt := 179) hx hb dX11_stairs_172 (by decide) (fun c27 => ?_) (fun c27 => ?_)
                        · replace h := (if_pos (lg_clt.mp c27)).symm.trans h
                          refine lv_iconst (v := 0) hx hb dX11_stairs_179 (by decide) ?_
                          refine lv_iadd hx hb dX11_stairs_180 ?_
                          refine lv_topi (fun x28 ex28 => ?_)
                          replace h := lt_use h x28 ex28
                          refine lv_istore (lv' := [(4, .int x28), (0, .ref h0), (1, .int p1), (2, .int p2), (3, .int p3), (5, .int q124.2)]) hx hb dX11_stairs_181 hl (by decide) rfl (fun ls hl => ?_)
                          refine lv_iinc (v := (q124.2 + (1 : Int32))) (lv' := [(5, .int (q124.2 + (1 : Int32))), (4, .int x28), (0, .ref h0), (1, .int p1), (2, .int p2), (3, .int p3)]) hx hb dX11_stairs_183 hl (k := 5) rfl rfl (by decide) rfl (fun ls hl => ?_)
                          refine lv_goto (tgt := 124) hx hb dX11_stairs_186 (by decide) ?_
                          exact ih _ o (hgo _ (Option.some.inj h).symm) H locs ls (lv_sub hl [2, 3, 4, 5, 1, 0] rfl) hP hD hS kk189
                        · replace h := (if_neg (fun z => c27 (lg_clt.mpr z))).symm.trans h
                          refine lv_iconst (v := 1) hx hb dX11_stairs_175 (by decide) ?_
                          refine lv_goto (tgt := 180) hx hb dX11_stairs_176 (by decide) ?_
                          refine lv_iadd hx hb dX11_stairs_180 ?_
                          refine lv_topi (fun x29 ex29 => ?_)
                          replace h := lt_use h x29 ex29
                          refine lv_istore (lv' := [(4, .int x29), (0, .ref h0), (1, .int p1), (2, .int p2), (3, .int p3), (5, .int q124.2)]) hx hb dX11_stairs_181 hl (by decide) rfl (fun ls hl => ?_)
                          refine lv_iinc (v := (q124.2 + (1 : Int32))) (lv' := [(5, .int (q124.2 + (1 : Int32))), (4, .int x29), (0, .ref h0), (1, .int p1), (2, .int p2), (3, .int p3)]) hx hb dX11_stairs_183 hl (k := 5) rfl rfl (by decide) rfl (fun ls hl => ?_)
                          refine lv_goto (tgt := 124) hx hb dX11_stairs_186 (by decide) ?_
                          exact ih _ o (hgo _ (Option.some.inj h).symm) H locs ls (lv_sub hl [2, 3, 4, 5, 1, 0] rfl) hP hD hS kk189
              obtain ⟨o124, ho124, h⟩ := bd_elim h
              obtain ⟨n124, hn124⟩ := loopF_some ho124
              refine L124 n124 _ o124 hn124 H locs ls (lv_sub hl [2, 3, 4, 5, 1, 0] rfl) hP hD hS (fun H locs ls hl hP hD hS => ?_)
              refine lv_aload_n hx hb dX11_stairs_189 rfl (lv_at hl 0 rfl) ?_
              refine lv_iload hx hb dX11_stairs_190 (lv_at hl 1 rfl) ?_
              obtain ⟨r30, hr30, h⟩ := lt_elim h
              refine ca_i (w' := [WX11 cy h0 a0 r30.2]) (rn_V (As := [.int o124]) (rest := []) ⟨hx, hb, hml, hown, hts⟩ (kX11_gives l D cy h0 a0 s0 o124 r30 hr30.symm H.size) (cwV 1 hts gX11_stairs_X11_gives rfl rfl rfl (by decide +kernel) ⟨Nat.le_of_ble_eq_true rfl, Nat.le_of_ble_eq_true rfl⟩) hK hN hP hD [0] rfl rfl (ci := 11) (q0 := 0) rfl rfl rfl rfl hl.1 rfl (Nat.le_of_ble_eq_true rfl) dX11_stairs_192 ⟨Nat.le_refl 0, Nat.le_refl 0⟩) hP hD hS hA [0] ⟨rfl, rfl, rfl, rfl⟩ (fun H locs hP hD hS => ?_)
              exact hret 195 H locs ls (r30.1, r30.2) (Option.some.inj h) hP hD hS dX11_stairs_195
          · replace h := (if_neg c11).symm.trans h
            refine lv_aload_n hx hb dX11_stairs_64 rfl (lv_at hl 0 rfl) ?_
            refine lv_iconst (v := 3) hx hb dX11_stairs_65 (by decide) ?_
            obtain ⟨r31, hr31, h⟩ := lt_elim h
            refine ca_i (w' := [WX11 cy h0 a0 r31.2]) (rn_V (As := [.int (3 : Int32)]) (rest := []) ⟨hx, hb, hml, hown, hts⟩ (kX11_refuse l D cy h0 a0 s0 (3 : Int32) r31 hr31.symm H.size) (cwV 1 hts gX11_stairs_X11_refuse rfl rfl rfl (by decide +kernel) ⟨Nat.le_of_ble_eq_true rfl, Nat.le_of_ble_eq_true rfl⟩) hK hN hP hD [0] rfl rfl (ci := 11) (q0 := 0) rfl rfl rfl rfl hl.1 rfl (Nat.le_of_ble_eq_true rfl) dX11_stairs_66 ⟨Nat.le_refl 0, Nat.le_refl 0⟩) hP hD hS hA [0] ⟨rfl, rfl, rfl, rfl⟩ (fun H locs hP hD hS => ?_)
            exact hret 69 H locs ls (r31.1, r31.2) (Option.some.inj h) hP hD hS dX11_stairs_69
        · replace h := (if_pos c10).symm.trans h
          refine lv_aload_n hx hb dX11_stairs_43 rfl (lv_at hl 0 rfl) ?_
          refine lv_iconst (v := 2) hx hb dX11_stairs_44 (by decide) ?_
          obtain ⟨r32, hr32, h⟩ := lt_elim h
          refine ca_i (w' := [WX11 cy h0 a0 r32.2]) (rn_V (As := [.int (2 : Int32)]) (rest := []) ⟨hx, hb, hml, hown, hts⟩ (kX11_refuse l D cy h0 a0 s0 (2 : Int32) r32 hr32.symm H.size) (cwV 1 hts gX11_stairs_X11_refuse rfl rfl rfl (by decide +kernel) ⟨Nat.le_of_ble_eq_true rfl, Nat.le_of_ble_eq_true rfl⟩) hK hN hP hD [0] rfl rfl (ci := 11) (q0 := 0) rfl rfl rfl rfl hl.1 rfl (Nat.le_of_ble_eq_true rfl) dX11_stairs_45 ⟨Nat.le_refl 0, Nat.le_refl 0⟩) hP hD hS hA [0] ⟨rfl, rfl, rfl, rfl⟩ (fun H locs hP hD hS => ?_)
          exact hret 48 H locs ls (r32.1, r32.2) (Option.some.inj h) hP hD hS dX11_stairs_48
      · replace h := (if_pos c8).symm.trans h
        refine lv_aload_n hx hb dX11_stairs_27 rfl (lv_at hl 0 rfl) ?_
        refine lv_iconst (v := 1) hx hb dX11_stairs_28 (by decide) ?_
        obtain ⟨r33, hr33, h⟩ := lt_elim h
        refine ca_i (w' := [WX11 cy h0 a0 r33.2]) (rn_V (As := [.int (1 : Int32)]) (rest := []) ⟨hx, hb, hml, hown, hts⟩ (kX11_refuse l D cy h0 a0 s0 (1 : Int32) r33 hr33.symm H.size) (cwV 1 hts gX11_stairs_X11_refuse rfl rfl rfl (by decide +kernel) ⟨Nat.le_of_ble_eq_true rfl, Nat.le_of_ble_eq_true rfl⟩) hK hN hP hD [0] rfl rfl (ci := 11) (q0 := 0) rfl rfl rfl rfl hl.1 rfl (Nat.le_of_ble_eq_true rfl) dX11_stairs_29 ⟨Nat.le_refl 0, Nat.le_refl 0⟩) hP hD hS hA [0] ⟨rfl, rfl, rfl, rfl⟩ (fun H locs hP hD hS => ?_)
        exact hret 32 H locs ls (r33.1, r33.2) (Option.some.inj h) hP hD hS dX11_stairs_32
theorem dX11_status_0 : decode cX11_status 0 = .ok (.aload_n 0, 1) := by decide +kernel
theorem dX11_status_1 : decode cX11_status 1 = .ok (.getfield 69, 3) := by decide +kernel
theorem dX11_status_4 : decode cX11_status 4 = .ok (.ireturn, 1) := by decide +kernel
abbrev rmX11_status : Room := { frames := 0, cells := 0, slots := 0, locals := 0 }
set_option maxHeartbeats 4000000 in
set_option maxRecDepth 100000 in
theorem kX11_status (l : Launch) (D : va_G) (cy : Nat → ClassId) (h0 : Nat) (a0 : Nat → Nat) (s0 : Rc) (res : Int32) (h : fX11_status s0 = res) : CI l D cy yX11_status wsX11_status rmX11_status [.ref h0] (flat [WX11 cy h0 a0 s0]) (flat [WX11 cy h0 a0 s0]) res := by
  refine CI.of (cc := cX11_status) (maxL := 1) (by decide) rfl (Nat.le_of_ble_eq_true rfl) ?_
  intro p e s m args below meth c A QQ ls E hr
  obtain ⟨hx, hb, hml, hown, hts, hK, hN, hP, hD, hA, hl⟩ := E
  have hret : ∀ (pc : Nat) (H : Heap) (locs : List Loc) (ls : Array Slot) (u : Int32), u = res → va_P D vwCl (flat [WX11 cy h0 a0 s0]) H → va_D A (flat [WX11 cy h0 a0 s0]) → va_S A s.heap H locs → decode cX11_status pc = .ok (.ireturn, 1) → W p l e rmX11_status s m args below meth c H locs 0 0 QQ (F0 m pc ls [.int u]) := by
    intro pc H locs ls u hu hP hD hS hd; subst hu; exact hr pc H locs ls _ rfl hP hD hS hd
  clear hr
  have hl : lv_has ls 1 [(0, .ref h0)] := hl
  have hinX11 : ∀ w ∈ wsX110, w ∈ wsX11_status := fun _ h => List.mem_cons_of_mem _ (List.mem_append_right _ h)
  unfold fX11_status at h
  suffices key : ∀ (H : Heap) (locs : List Loc), va_P D vwCl (flat [WX11 cy h0 a0 s0]) H → va_S A s.heap H locs → W p l e rmX11_status s m args below meth c H locs 0 0 QQ (F0 m 0 ls []) from key _ _ hP va_S.rf
  clear hP
  intro H locs hP hS
  refine lv_aload_n hx hb dX11_status_0 rfl (lv_at hl 0 rfl) ?_
  refine va_get (D := D) (ci := 11) (v := .int (gi s0 2)) (C := RX11) (T := TX11) (N := 38) hx hb hts hinX11 hown hK hP 0 rfl rfl 2 (by decide) (hts (.fieldLink RX11 69 "KneeBenchModel" "status" "I") (List.mem_of_getElem? (i := 1) rfl)) (fun _ h9 => h9) rfl dX11_status_1 ?_
  exact hret 4 H locs ls (gi s0 2) h hP hD hS dX11_status_4
theorem gd_X11_streak : wsX11_streak.all goodWord = true := by decide +kernel
set_option maxRecDepth 20000 in
theorem ggX11_streak_X11_isFarmer : GoodIn wsX11_streak wsX11_isFarmer := goodIn_by gd_X11_streak (List.forall_mem_cons.mpr ⟨List.mem_cons_of_mem _ (List.mem_append_left _ (List.mem_append_left _ (List.mem_of_getElem? (i := 9) rfl))), List.forall_mem_append.mpr ⟨List.forall_mem_cons.mpr ⟨List.mem_cons_of_mem _ (List.mem_append_left _ (List.mem_append_left _ (List.mem_of_getElem? (i := 0) rfl))), nowords_in⟩, (fun _ h => List.mem_cons_of_mem _ (List.mem_append_right _ (h)))⟩⟩)
set_option maxRecDepth 20000 in
theorem gX11_streak_X11_isFarmer : GoodIn wsX11_streak (wsV RX11 267 RX11 yX11_isFarmer wsX11_isFarmer) := goodIn_app (goodIn_by gd_X11_streak (List.forall_mem_cons.mpr ⟨List.mem_cons_of_mem _ (List.mem_append_left _ (List.mem_append_left _ (List.mem_of_getElem? (i := 5) rfl))), List.forall_mem_cons.mpr ⟨List.mem_cons_of_mem _ (List.mem_append_left _ (List.mem_append_left _ (List.mem_of_getElem? (i := 6) rfl))), List.forall_mem_cons.mpr ⟨List.mem_cons_of_mem _ (List.mem_append_left _ (List.mem_append_left _ (List.mem_of_getElem? (i := 7) rfl))), List.forall_mem_cons.mpr ⟨List.mem_cons_of_mem _ (List.mem_append_left _ (List.mem_append_left _ (List.mem_of_getElem? (i := 8) rfl))), nowords_in⟩⟩⟩⟩)) ggX11_streak_X11_isFarmer
set_option maxRecDepth 20000 in
theorem ggX11_streak_X11_refuse : GoodIn wsX11_streak wsX11_refuse := goodIn_by gd_X11_streak (List.forall_mem_cons.mpr ⟨List.mem_cons_of_mem _ (List.mem_append_left _ (List.mem_append_left _ (List.mem_of_getElem? (i := 13) rfl))), List.forall_mem_append.mpr ⟨List.forall_mem_cons.mpr ⟨List.mem_cons_of_mem _ (List.mem_append_left _ (List.mem_append_left _ (List.mem_of_getElem? (i := 14) rfl))), nowords_in⟩, (fun _ h => List.mem_cons_of_mem _ (List.mem_append_right _ (h)))⟩⟩)
set_option maxRecDepth 20000 in
theorem gX11_streak_X11_refuse : GoodIn wsX11_streak (wsV RX11 75 RX11 yX11_refuse wsX11_refuse) := goodIn_app (goodIn_by gd_X11_streak (List.forall_mem_cons.mpr ⟨List.mem_cons_of_mem _ (List.mem_append_left _ (List.mem_append_left _ (List.mem_of_getElem? (i := 10) rfl))), List.forall_mem_cons.mpr ⟨List.mem_cons_of_mem _ (List.mem_append_left _ (List.mem_append_left _ (List.mem_of_getElem? (i := 11) rfl))), List.forall_mem_cons.mpr ⟨List.mem_cons_of_mem _ (List.mem_append_left _ (List.mem_append_left _ (List.mem_of_getElem? (i := 12) rfl))), List.forall_mem_cons.mpr ⟨List.mem_cons_of_mem _ (List.mem_append_left _ (List.mem_append_left _ (List.mem_of_getElem? (i := 8) rfl))), nowords_in⟩⟩⟩⟩)) ggX11_streak_X11_refuse
set_option maxRecDepth 20000 in
theorem ggX11_streak_X11_isRight : GoodIn wsX11_streak wsX11_isRight := goodIn_by gd_X11_streak (List.forall_mem_cons.mpr ⟨List.mem_cons_of_mem _ (List.mem_append_left _ (List.mem_append_left _ (List.mem_of_getElem? (i := 18) rfl))), List.forall_mem_append.mpr ⟨List.forall_mem_append.mpr ⟨List.forall_mem_cons.mpr ⟨List.mem_cons_of_mem _ (List.mem_append_left _ (List.mem_append_left _ (List.mem_of_getElem? (i := 19) rfl))), List.forall_mem_cons.mpr ⟨List.mem_cons_of_mem _ (List.mem_append_left _ (List.mem_append_left _ (List.mem_of_getElem? (i := 20) rfl))), List.forall_mem_cons.mpr ⟨List.mem_cons_of_mem _ (List.mem_append_left _ (List.mem_append_left _ (List.mem_of_getElem? (i := 21) rfl))), List.forall_mem_cons.mpr ⟨List.mem_cons_of_mem _ (List.mem_append_left _ (List.mem_append_left _ (List.mem_of_getElem? (i := 8) rfl))), List.forall_mem_cons.mpr ⟨List.mem_cons_of_mem _ (List.mem_append_left _ (List.mem_append_left _ (List.mem_of_getElem? (i := 22) rfl))), List.forall_mem_cons.mpr ⟨List.mem_cons_of_mem _ (List.mem_append_left _ (List.mem_append_left _ (List.mem_of_getElem? (i := 23) rfl))), List.forall_mem_cons.mpr ⟨List.mem_cons_of_mem _ (List.mem_append_left _ (List.mem_append_left _ (List.mem_of_getElem? (i := 0) rfl))), List.forall_mem_cons.mpr ⟨List.mem_cons_of_mem _ (List.mem_append_left _ (List.mem_append_right _ (List.mem_append_left _ (List.mem_of_getElem? (i := 0) rfl)))), List.forall_mem_cons.mpr ⟨List.mem_cons_of_mem _ (List.mem_append_left _ (List.mem_append_right _ (List.mem_append_left _ (List.mem_of_getElem? (i := 1) rfl)))), List.forall_mem_cons.mpr ⟨List.mem_cons_of_mem _ (List.mem_append_left _ (List.mem_append_right _ (List.mem_append_left _ (List.mem_of_getElem? (i := 2) rfl)))), List.forall_mem_cons.mpr ⟨List.mem_cons_of_mem _ (List.mem_append_left _ (List.mem_append_right _ (List.mem_append_left _ (List.mem_of_getElem? (i := 3) rfl)))), List.forall_mem_cons.mpr ⟨List.mem_cons_of_mem _ (List.mem_append_left _ (List.mem_append_right _ (List.mem_append_left _ (List.mem_of_getElem? (i := 4) rfl)))), List.forall_mem_cons.mpr ⟨List.mem_cons_of_mem _ (List.mem_append_left _ (List.mem_append_right _ (List.mem_append_left _ (List.mem_of_getElem? (i := 5) rfl)))), List.forall_mem_cons.mpr ⟨List.mem_cons_of_mem _ (List.mem_append_left _ (List.mem_append_right _ (List.mem_append_left _ (List.mem_of_getElem? (i := 6) rfl)))), List.forall_mem_cons.mpr ⟨List.mem_cons_of_mem _ (List.mem_append_left _ (List.mem_append_right _ (List.mem_append_left _ (List.mem_of_getElem? (i := 7) rfl)))), List.forall_mem_cons.mpr ⟨List.mem_cons_of_mem _ (List.mem_append_left _ (List.mem_append_right _ (List.mem_append_left _ (List.mem_of_getElem? (i := 8) rfl)))), List.forall_mem_cons.mpr ⟨List.mem_cons_of_mem _ (List.mem_append_left _ (List.mem_append_right _ (List.mem_append_left _ (List.mem_of_getElem? (i := 9) rfl)))), List.forall_mem_cons.mpr ⟨List.mem_cons_of_mem _ (List.mem_append_left _ (List.mem_append_right _ (List.mem_append_left _ (List.mem_of_getElem? (i := 10) rfl)))), List.forall_mem_cons.mpr ⟨List.mem_cons_of_mem _ (List.mem_append_left _ (List.mem_append_right _ (List.mem_append_left _ (List.mem_of_getElem? (i := 11) rfl)))), List.forall_mem_cons.mpr ⟨List.mem_cons_of_mem _ (List.mem_append_left _ (List.mem_append_right _ (List.mem_append_left _ (List.mem_of_getElem? (i := 12) rfl)))), List.forall_mem_cons.mpr ⟨List.mem_cons_of_mem _ (List.mem_append_left _ (List.mem_append_right _ (List.mem_append_left _ (List.mem_of_getElem? (i := 13) rfl)))), List.forall_mem_cons.mpr ⟨List.mem_cons_of_mem _ (List.mem_append_left _ (List.mem_append_right _ (List.mem_append_left _ (List.mem_of_getElem? (i := 14) rfl)))), List.forall_mem_cons.mpr ⟨List.mem_cons_of_mem _ (List.mem_append_left _ (List.mem_append_right _ (List.mem_append_left _ (List.mem_of_getElem? (i := 15) rfl)))), List.forall_mem_cons.mpr ⟨List.mem_cons_of_mem _ (List.mem_append_left _ (List.mem_append_right _ (List.mem_append_left _ (List.mem_of_getElem? (i := 16) rfl)))), nowords_in⟩⟩⟩⟩⟩⟩⟩⟩⟩⟩⟩⟩⟩⟩⟩⟩⟩⟩⟩⟩⟩⟩⟩⟩, List.forall_mem_cons.mpr ⟨List.mem_cons_of_mem _ (List.mem_append_left _ (List.mem_append_right _ (List.mem_append_left _ (List.mem_of_getElem? (i := 17) rfl)))), List.forall_mem_cons.mpr ⟨List.mem_cons_of_mem _ (List.mem_append_left _ (List.mem_append_right _ (List.mem_append_left _ (List.mem_of_getElem? (i := 18) rfl)))), List.forall_mem_cons.mpr ⟨List.mem_cons_of_mem _ (List.mem_append_left _ (List.mem_append_right _ (List.mem_append_left _ (List.mem_of_getElem? (i := 19) rfl)))), List.forall_mem_cons.mpr ⟨List.mem_cons_of_mem _ (List.mem_append_left _ (List.mem_append_right _ (List.mem_append_left _ (List.mem_of_getElem? (i := 20) rfl)))), List.forall_mem_cons.mpr ⟨List.mem_cons_of_mem _ (List.mem_append_left _ (List.mem_append_right _ (List.mem_append_left _ (List.mem_of_getElem? (i := 21) rfl)))), List.forall_mem_cons.mpr ⟨List.mem_cons_of_mem _ (List.mem_append_left _ (List.mem_append_right _ (List.mem_append_left _ (List.mem_of_getElem? (i := 22) rfl)))), nowords_in⟩⟩⟩⟩⟩⟩⟩, (fun _ h => List.mem_cons_of_mem _ (List.mem_append_right _ (h)))⟩⟩)
set_option maxRecDepth 20000 in
theorem gX11_streak_X11_isRight : GoodIn wsX11_streak (wsV RX11 325 RX11 yX11_isRight wsX11_isRight) := goodIn_app (goodIn_by gd_X11_streak (List.forall_mem_cons.mpr ⟨List.mem_cons_of_mem _ (List.mem_append_left _ (List.mem_append_left _ (List.mem_of_getElem? (i := 15) rfl))), List.forall_mem_cons.mpr ⟨List.mem_cons_of_mem _ (List.mem_append_left _ (List.mem_append_left _ (List.mem_of_getElem? (i := 16) rfl))), List.forall_mem_cons.mpr ⟨List.mem_cons_of_mem _ (List.mem_append_left _ (List.mem_append_left _ (List.mem_of_getElem? (i := 17) rfl))), List.forall_mem_cons.mpr ⟨List.mem_cons_of_mem _ (List.mem_append_left _ (List.mem_append_left _ (List.mem_of_getElem? (i := 8) rfl))), nowords_in⟩⟩⟩⟩)) ggX11_streak_X11_isRight
set_option maxRecDepth 20000 in
theorem ggX11_streak_X11_gives : GoodIn wsX11_streak wsX11_gives := goodIn_by gd_X11_streak (List.forall_mem_cons.mpr ⟨List.mem_cons_of_mem _ (List.mem_append_left _ (List.mem_append_right _ (List.mem_append_right _ (List.mem_of_getElem? (i := 2) rfl)))), List.forall_mem_append.mpr ⟨List.forall_mem_cons.mpr ⟨List.mem_cons_of_mem _ (List.mem_append_left _ (List.mem_append_left _ (List.mem_of_getElem? (i := 14) rfl))), nowords_in⟩, (fun _ h => List.mem_cons_of_mem _ (List.mem_append_right _ (h)))⟩⟩)
set_option maxRecDepth 20000 in
theorem gX11_streak_X11_gives : GoodIn wsX11_streak (wsV RX11 79 RX11 yX11_gives wsX11_gives) := goodIn_app (goodIn_by gd_X11_streak (List.forall_mem_cons.mpr ⟨List.mem_cons_of_mem _ (List.mem_append_left _ (List.mem_append_right _ (List.mem_append_left _ (List.mem_of_getElem? (i := 23) rfl)))), List.forall_mem_cons.mpr ⟨List.mem_cons_of_mem _ (List.mem_append_left _ (List.mem_append_right _ (List.mem_append_right _ (List.mem_of_getElem? (i := 0) rfl)))), List.forall_mem_cons.mpr ⟨List.mem_cons_of_mem _ (List.mem_append_left _ (List.mem_append_right _ (List.mem_append_right _ (List.mem_of_getElem? (i := 1) rfl)))), List.forall_mem_cons.mpr ⟨List.mem_cons_of_mem _ (List.mem_append_left _ (List.mem_append_left _ (List.mem_of_getElem? (i := 8) rfl))), nowords_in⟩⟩⟩⟩)) ggX11_streak_X11_gives
theorem dX11_streak_0 : decode cX11_streak 0 = .ok (.aload_n 0, 1) := by decide +kernel
theorem dX11_streak_1 : decode cX11_streak 1 = .ok (.iload_n 1, 1) := by decide +kernel
theorem dX11_streak_2 : decode cX11_streak 2 = .ok (.invokevirtual 267, 3) := by decide +kernel
theorem dX11_streak_5 : decode cX11_streak 5 = .ok (.ifCond .ne 9, 3) := by decide +kernel
theorem dX11_streak_8 : decode cX11_streak 8 = .ok (.aload_n 0, 1) := by decide +kernel
theorem dX11_streak_9 : decode cX11_streak 9 = .ok (.iconst 1, 1) := by decide +kernel
theorem dX11_streak_10 : decode cX11_streak 10 = .ok (.invokevirtual 75, 3) := by decide +kernel
theorem dX11_streak_13 : decode cX11_streak 13 = .ok (.ireturn, 1) := by decide +kernel
theorem dX11_streak_14 : decode cX11_streak 14 = .ok (.iconst 0, 1) := by decide +kernel
theorem dX11_streak_15 : decode cX11_streak 15 = .ok (.istore_n 2, 1) := by decide +kernel
theorem dX11_streak_16 : decode cX11_streak 16 = .ok (.iconst 0, 1) := by decide +kernel
theorem dX11_streak_17 : decode cX11_streak 17 = .ok (.istore_n 3, 1) := by decide +kernel
theorem dX11_streak_18 : decode cX11_streak 18 = .ok (.iconst 0, 1) := by decide +kernel
theorem dX11_streak_19 : decode cX11_streak 19 = .ok (.istore 4, 2) := by decide +kernel
theorem dX11_streak_21 : decode cX11_streak 21 = .ok (.iload 4, 2) := by decide +kernel
theorem dX11_streak_23 : decode cX11_streak 23 = .ok (.aload_n 0, 1) := by decide +kernel
theorem dX11_streak_24 : decode cX11_streak 24 = .ok (.getfield 7, 3) := by decide +kernel
theorem dX11_streak_27 : decode cX11_streak 27 = .ok (.iconst 1, 1) := by decide +kernel
theorem dX11_streak_28 : decode cX11_streak 28 = .ok (.iaload, 1) := by decide +kernel
theorem dX11_streak_29 : decode cX11_streak 29 = .ok (.if_icmp .ge 33, 3) := by decide +kernel
theorem dX11_streak_32 : decode cX11_streak 32 = .ok (.aload_n 0, 1) := by decide +kernel
theorem dX11_streak_33 : decode cX11_streak 33 = .ok (.iload_n 1, 1) := by decide +kernel
theorem dX11_streak_34 : decode cX11_streak 34 = .ok (.iload 4, 2) := by decide +kernel
theorem dX11_streak_36 : decode cX11_streak 36 = .ok (.invokevirtual 325, 3) := by decide +kernel
theorem dX11_streak_39 : decode cX11_streak 39 = .ok (.ifCond .eq 9, 3) := by decide +kernel
theorem dX11_streak_42 : decode cX11_streak 42 = .ok (.iload_n 3, 1) := by decide +kernel
theorem dX11_streak_43 : decode cX11_streak 43 = .ok (.iconst 1, 1) := by decide +kernel
theorem dX11_streak_44 : decode cX11_streak 44 = .ok (.iadd, 1) := by decide +kernel
theorem dX11_streak_45 : decode cX11_streak 45 = .ok (.goto 4, 3) := by decide +kernel
theorem dX11_streak_48 : decode cX11_streak 48 = .ok (.iconst 0, 1) := by decide +kernel
theorem dX11_streak_49 : decode cX11_streak 49 = .ok (.istore_n 3, 1) := by decide +kernel
theorem dX11_streak_50 : decode cX11_streak 50 = .ok (.iload_n 2, 1) := by decide +kernel
theorem dX11_streak_51 : decode cX11_streak 51 = .ok (.iload_n 3, 1) := by decide +kernel
theorem dX11_streak_52 : decode cX11_streak 52 = .ok (.invokestatic 341, 3) := by decide +kernel
theorem dX11_streak_55 : decode cX11_streak 55 = .ok (.istore_n 2, 1) := by decide +kernel
theorem dX11_streak_56 : decode cX11_streak 56 = .ok (.iinc 4 1, 3) := by decide +kernel
theorem dX11_streak_59 : decode cX11_streak 59 = .ok (.goto (-38), 3) := by decide +kernel
theorem dX11_streak_62 : decode cX11_streak 62 = .ok (.aload_n 0, 1) := by decide +kernel
theorem dX11_streak_63 : decode cX11_streak 63 = .ok (.iload_n 2, 1) := by decide +kernel
theorem dX11_streak_64 : decode cX11_streak 64 = .ok (.invokevirtual 79, 3) := by decide +kernel
theorem dX11_streak_67 : decode cX11_streak 67 = .ok (.ireturn, 1) := by decide +kernel
abbrev rmX11_streak : Room := { frames := 4, cells := 0, slots := 0, locals := 88 }
set_option maxHeartbeats 4000000 in
set_option maxRecDepth 100000 in
theorem kX11_streak (l : Launch) (D : va_G) (cy : Nat → ClassId) (h0 : Nat) (a0 : Nat → Nat) (s0 : Rc) (p1 : Int32) (res : Int32 × Rc) (h : fX11_streak p1 s0 = some res) : CI l D cy yX11_streak wsX11_streak rmX11_streak [.ref h0, .int p1] (flat [WX11 cy h0 a0 s0]) (flat [WX11 cy h0 a0 res.2]) res.1 := by
  refine CI.of (cc := cX11_streak) (maxL := 5) (by decide) rfl (Nat.le_of_ble_eq_true rfl) ?_
  intro p e s m args below meth c A QQ ls E hr
  obtain ⟨hx, hb, hml, hown, hts, hK, hN, hP, hD, hA, hl⟩ := E
  have hret : ∀ (pc : Nat) (H : Heap) (locs : List Loc) (ls : Array Slot) (u : Int32 × Rc), u = res → va_P D vwCl (flat [WX11 cy h0 a0 u.2]) H → va_D A (flat [WX11 cy h0 a0 u.2]) → va_S A s.heap H locs → decode cX11_streak pc = .ok (.ireturn, 1) → W p l e rmX11_streak s m args below meth c H locs 0 0 QQ (F0 m pc ls [.int u.1]) := by
    intro pc H locs ls u hu hP hD hS hd; subst hu; exact hr pc H locs ls _ rfl hP hD hS hd
  clear hr
  have hl : lv_has ls 5 [(0, .ref h0), (1, .int p1)] := hl
  have hinX11 : ∀ w ∈ wsX110, w ∈ wsX11_streak := fun _ h => List.mem_cons_of_mem _ (List.mem_append_right _ h)
  unfold fX11_streak at h
  suffices key : ∀ (H : Heap) (locs : List Loc), va_P D vwCl (flat [WX11 cy h0 a0 s0]) H → va_S A s.heap H locs → W p l e rmX11_streak s m args below meth c H locs 0 0 QQ (F0 m 0 ls []) from key _ _ hP va_S.rf
  clear hP
  intro H locs hP hS
  refine lv_aload_n hx hb dX11_streak_0 rfl (lv_at hl 0 rfl) ?_
  refine lv_iload_n hx hb dX11_streak_1 rfl (lv_at hl 1 rfl) ?_
  refine ca_z (w' := [WX11 cy h0 a0 s0]) (rn_V (As := [.int p1]) (rest := []) ⟨hx, hb, hml, hown, hts⟩ (kX11_isFarmer l D cy h0 a0 s0 p1 _ rfl H.size) (cwV 1 hts gX11_streak_X11_isFarmer rfl rfl rfl (by decide +kernel) ⟨Nat.le_of_ble_eq_true rfl, Nat.le_of_ble_eq_true rfl⟩) hK hN hP hD [0] rfl rfl (ci := 11) (q0 := 0) rfl rfl rfl rfl hl.1 rfl (Nat.le_of_ble_eq_true rfl) dX11_streak_2 ⟨Nat.le_refl 0, Nat.le_refl 0⟩) hP hD hS hA [0] ⟨rfl, rfl, rfl, rfl⟩ (fun b1 H locs hP hD hS => ?_)
  refine lv_if_ne (tgt := 14) hx hb dX11_streak_5 (by decide) (fun c2 => ?_) (fun c2 => ?_)
  · replace h := (if_neg c2).symm.trans h
    refine lv_iconst (v := 0) hx hb dX11_streak_14 (by decide) ?_
    refine lv_istore_n (lv' := [(2, .int (0 : Int32)), (0, .ref h0), (1, .int p1)]) hx hb dX11_streak_15 rfl hl (by decide) rfl (fun ls hl => ?_)
    refine lv_iconst (v := 0) hx hb dX11_streak_16 (by decide) ?_
    refine lv_istore_n (lv' := [(3, .int (0 : Int32)), (2, .int (0 : Int32)), (0, .ref h0), (1, .int p1)]) hx hb dX11_streak_17 rfl hl (by decide) rfl (fun ls hl => ?_)
    refine lv_iconst (v := 0) hx hb dX11_streak_18 (by decide) ?_
    refine lv_istore (lv' := [(4, .int (0 : Int32)), (3, .int (0 : Int32)), (2, .int (0 : Int32)), (0, .ref h0), (1, .int p1)]) hx hb dX11_streak_19 hl (by decide) rfl (fun ls hl => ?_)
    have L21 : ∀ (n : Nat) (q21 : Int32 × Int32 × Int32) (o : Int32), loopO (fX11_streak_L21 p1 s0) n q21 = some o → ∀ (H : Heap) (locs : List Loc) (ls : Array Slot), lv_has ls 5 [(0, .ref h0), (1, .int p1), (2, .int q21.1), (3, .int q21.2.1), (4, .int q21.2.2)] → va_P D vwCl (flat [WX11 cy h0 a0 s0]) H → va_D A (flat [WX11 cy h0 a0 s0]) → va_S A s.heap H locs → ∀ (kk62 : ∀ (H : Heap) (locs : List Loc) (ls : Array Slot), lv_has ls 5 [(0, .ref h0), (2, .int o)] → va_P D vwCl (flat [WX11 cy h0 a0 s0]) H → va_D A (flat [WX11 cy h0 a0 s0]) → va_S A s.heap H locs → W p l e rmX11_streak s m args below meth c H locs 0 0 QQ (F0 m 62 ls [])), W p l e rmX11_streak s m args below meth c H locs 0 0 QQ (F0 m 21 ls []) := by
      intro n
      induction n with
      | zero => intro q21 o h; exact absurd h (by rw [loopO_zero]; intro z; cases z)
      | succ n ih =>
        intro q21 o h H locs ls hl hP hD hS kk62
        obtain ⟨w, h, hgo, hst⟩ := loopO_elim h
        unfold fX11_streak_L21 at h
        have J49 : ∀ (z49_0 : Int32) (H : Heap) (locs : List Loc) (ls : Array Slot), lv_has ls 5 [(0, .ref h0), (1, .int p1), (2, .int q21.1), (4, .int q21.2.2)] → va_P D vwCl (flat [WX11 cy h0 a0 s0]) H → va_D A (flat [WX11 cy h0 a0 s0]) → va_S A s.heap H locs → fX11_streak_J49 q21 z49_0 = some w → W p l e rmX11_streak s m args below meth c H locs 0 0 QQ (F0 m 49 ls [.int z49_0]) := by
          intro z49_0 H locs ls hl hP hD hS h
          unfold fX11_streak_J49 at h
          refine lv_istore_n (lv' := [(3, .int z49_0), (0, .ref h0), (1, .int p1), (2, .int q21.1), (4, .int q21.2.2)]) hx hb dX11_streak_49 rfl hl (by decide) rfl (fun ls hl => ?_)
          refine lv_iload_n hx hb dX11_streak_50 rfl (lv_at hl 3 rfl) ?_
          refine lv_iload_n hx hb dX11_streak_51 rfl (lv_at hl 0 rfl) ?_
          refine va_mmax hx hb (hml.trans hl.1.symm) hown (hts (.methodLink RX11 341 Lib.Math.max.name) (List.mem_of_getElem? (i := 2) rfl)) (hts (.static Lib.Math.max.name) (List.mem_of_getElem? (i := 3) rfl)) (hts (.initialized "java/lang/Math") (List.mem_of_getElem? (i := 4) rfl)) (hts (.code Lib.Math.max.name Lib.Math.max.code 2 (some .int)) (List.mem_of_getElem? (i := 5) rfl)) (Nat.le_of_ble_eq_true rfl) (Nat.le_of_ble_eq_true rfl) (Nat.le_refl 0) (Nat.le_refl 0) dX11_streak_52 ?_
          refine lv_topi (fun x3 ex3 => ?_)
          replace h := lt_use h x3 ex3
          refine lv_istore_n (lv' := [(2, .int x3), (3, .int z49_0), (0, .ref h0), (1, .int p1), (4, .int q21.2.2)]) hx hb dX11_streak_55 rfl hl (by decide) rfl (fun ls hl => ?_)
          refine lv_iinc (v := (q21.2.2 + (1 : Int32))) (lv' := [(4, .int (q21.2.2 + (1 : Int32))), (2, .int x3), (3, .int z49_0), (0, .ref h0), (1, .int p1)]) hx hb dX11_streak_56 hl (k := 4) rfl rfl (by decide) rfl (fun ls hl => ?_)
          refine lv_goto (tgt := 21) hx hb dX11_streak_59 (by decide) ?_
          exact ih _ o (hgo _ (Option.some.inj h).symm) H locs ls (lv_sub hl [3, 4, 1, 2, 0] rfl) hP hD hS kk62
        refine lv_iload hx hb dX11_streak_21 (lv_at hl 4 rfl) ?_
        refine lv_aload_n hx hb dX11_streak_23 rfl (lv_at hl 0 rfl) ?_
        refine va_get (D := D) (ci := 11) (v := .ref (a0 0)) (C := RX11) (T := TX11) (N := 38) hx hb hts hinX11 hown hK hP 0 rfl rfl 0 (by decide) (hts (.fieldLink RX11 7 "KneeBenchModel" "at" "[I") (List.mem_of_getElem? (i := 1) rfl)) (fun _ h9 => h9) rfl dX11_streak_24 ?_
        refine lv_iconst (v := 1) hx hb dX11_streak_27 (by decide) ?_
        refine va_iald hx hb hK hP 1 1 rfl rfl (inb_in (by decide)) dX11_streak_28 ?_
        refine lv_icmp_ge (tgt := 62) hx hb dX11_streak_29 (by decide) (fun c4 => ?_) (fun c4 => ?_)
        · replace h := (if_pos c4).symm.trans h
          have eo := hst _ (Option.some.inj h).symm
          subst eo
          exact kk62 H locs ls (lv_sub hl [0, 2] rfl) hP hD hS
        · replace h := (if_neg c4).symm.trans h
          refine lv_aload_n hx hb dX11_streak_32 rfl (lv_at hl 0 rfl) ?_
          refine lv_iload_n hx hb dX11_streak_33 rfl (lv_at hl 1 rfl) ?_
          refine lv_iload hx hb dX11_streak_34 (lv_at hl 4 rfl) ?_
          obtain ⟨r5, hr5, h⟩ := bd_elim h
          refine ca_z (w' := [WX11 cy h0 a0 s0]) (rn_V (As := [.int p1, .int q21.2.2]) (rest := []) ⟨hx, hb, hml, hown, hts⟩ (kX11_isRight l D cy h0 a0 s0 p1 q21.2.2 r5 hr5 H.size) (cwV 2 hts gX11_streak_X11_isRight rfl rfl rfl (by decide +kernel) ⟨Nat.le_of_ble_eq_true rfl, Nat.le_of_ble_eq_true rfl⟩) hK hN hP hD [0] rfl rfl (ci := 11) (q0 := 0) rfl rfl rfl rfl hl.1 rfl (Nat.le_of_ble_eq_true rfl) dX11_streak_36 ⟨Nat.le_refl 0, Nat.le_refl 0⟩) hP hD hS hA [0] ⟨rfl, rfl, rfl, rfl⟩ (fun b6 H locs hP hD hS => ?_)
          refine lv_if_eq (tgt := 48) hx hb dX11_streak_39 (by decide) (fun c7 => ?_) (fun c7 => ?_)
          · replace h := (if_pos c7).symm.trans h
            refine lv_iconst (v := 0) hx hb dX11_streak_48 (by decide) ?_
            exact J49 (0 : Int32) H locs ls (lv_sub hl [0, 1, 2, 4] rfl) hP hD hS h
          · replace h := (if_neg c7).symm.trans h
            refine lv_iload_n hx hb dX11_streak_42 rfl (lv_at hl 3 rfl) ?_
            refine lv_iconst (v := 1) hx hb dX11_streak_43 (by decide) ?_
            refine lv_iadd hx hb dX11_streak_44 ?_
            refine lv_goto (tgt := 49) hx hb dX11_streak_45 (by decide) ?_
            exact J49 (q21.2.1 + (1 : Int32)) H locs ls (lv_sub hl [0, 1, 2, 4] rfl) hP hD hS h
    obtain ⟨o21, ho21, h⟩ := bd_elim h
    obtain ⟨n21, hn21⟩ := loopF_some ho21
    refine L21 n21 _ o21 hn21 H locs ls (lv_sub hl [3, 4, 2, 1, 0] rfl) hP hD hS (fun H locs ls hl hP hD hS => ?_)
    refine lv_aload_n hx hb dX11_streak_62 rfl (lv_at hl 0 rfl) ?_
    refine lv_iload_n hx hb dX11_streak_63 rfl (lv_at hl 1 rfl) ?_
    obtain ⟨r8, hr8, h⟩ := lt_elim h
    refine ca_i (w' := [WX11 cy h0 a0 r8.2]) (rn_V (As := [.int o21]) (rest := []) ⟨hx, hb, hml, hown, hts⟩ (kX11_gives l D cy h0 a0 s0 o21 r8 hr8.symm H.size) (cwV 1 hts gX11_streak_X11_gives rfl rfl rfl (by decide +kernel) ⟨Nat.le_of_ble_eq_true rfl, Nat.le_of_ble_eq_true rfl⟩) hK hN hP hD [0] rfl rfl (ci := 11) (q0 := 0) rfl rfl rfl rfl hl.1 rfl (Nat.le_of_ble_eq_true rfl) dX11_streak_64 ⟨Nat.le_refl 0, Nat.le_refl 0⟩) hP hD hS hA [0] ⟨rfl, rfl, rfl, rfl⟩ (fun H locs hP hD hS => ?_)
    exact hret 67 H locs ls (r8.1, r8.2) (Option.some.inj h) hP hD hS dX11_streak_67
  · replace h := (if_pos c2).symm.trans h
    refine lv_aload_n hx hb dX11_streak_8 rfl (lv_at hl 0 rfl) ?_
    refine lv_iconst (v := 1) hx hb dX11_streak_9 (by decide) ?_
    obtain ⟨r9, hr9, h⟩ := lt_elim h
    refine ca_i (w' := [WX11 cy h0 a0 r9.2]) (rn_V (As := [.int (1 : Int32)]) (rest := []) ⟨hx, hb, hml, hown, hts⟩ (kX11_refuse l D cy h0 a0 s0 (1 : Int32) r9 hr9.symm H.size) (cwV 1 hts gX11_streak_X11_refuse rfl rfl rfl (by decide +kernel) ⟨Nat.le_of_ble_eq_true rfl, Nat.le_of_ble_eq_true rfl⟩) hK hN hP hD [0] rfl rfl (ci := 11) (q0 := 0) rfl rfl rfl rfl hl.1 rfl (Nat.le_of_ble_eq_true rfl) dX11_streak_10 ⟨Nat.le_refl 0, Nat.le_refl 0⟩) hP hD hS hA [0] ⟨rfl, rfl, rfl, rfl⟩ (fun H locs hP hD hS => ?_)
    exact hret 13 H locs ls (r9.1, r9.2) (Option.some.inj h) hP hD hS dX11_streak_13
