set_option maxRecDepth 20000 in
theorem ggX3_doStep_X2_drawBy16 : GoodIn wsX3_doStep wsX2_drawBy16 := goodIn_r _ [6, 7, 8, 126] (by decide +kernel) (by decide +kernel)
set_option maxRecDepth 20000 in
theorem gX3_doStep_X2_drawBy16 : GoodIn wsX3_doStep (wsV RX3 100 RX2 yX2_drawBy16 wsX2_drawBy16) := goodIn_app (goodIn_of _ (by decide +kernel)) ggX3_doStep_X2_drawBy16
set_option maxRecDepth 20000 in
theorem ggX3_doStep_X3_addDay : GoodIn wsX3_doStep wsX3_addDay := goodIn_r _ [13, 14, 15, 16, 17, 18, 19, 20, 21, 22, 23, 24, 25, 26, 27, 28, 29, 30, 31, 32, 105, 106, 107, 108, 109, 110, 111, 112, 113, 114, 115, 116, 117, 118, 119, 120, 121, 122, 123, 124, 125] (by decide +kernel) (by decide +kernel)
set_option maxRecDepth 20000 in
theorem gX3_doStep_X3_addDay : GoodIn wsX3_doStep (wsV RX3 104 RX3 yX3_addDay wsX3_addDay) := goodIn_app (goodIn_of _ (by decide +kernel)) ggX3_doStep_X3_addDay
set_option maxRecDepth 20000 in
theorem ggX3_doStep_X0_feelBy : GoodIn wsX3_doStep wsX0_feelBy := goodIn_r _ [36, 37, 22, 38, 39, 40, 41, 42, 43, 20, 44, 45, 46, 47, 48, 49, 28, 27, 50, 51, 52, 53, 54, 55, 31, 56, 57, 58, 59, 60, 61, 62, 63, 64, 65, 66, 67, 68, 3, 4, 5, 6, 7, 8, 112, 113, 114, 115, 116, 117, 118, 119, 120, 121, 122, 123, 124, 125, 126] (by decide +kernel) (by decide +kernel)
set_option maxRecDepth 20000 in
theorem gX3_doStep_X0_feelBy : GoodIn wsX3_doStep (wsV RX3 108 RX0 yX0_feelBy wsX0_feelBy) := goodIn_app (goodIn_of _ (by decide +kernel)) ggX3_doStep_X0_feelBy
set_option maxRecDepth 20000 in
theorem ggX3_doStep_X3_lookBack : GoodIn wsX3_doStep wsX3_lookBack := goodIn_r _ [72, 14, 73, 74, 75, 20, 76, 40, 77, 78, 79, 80, 37, 81, 82, 83, 64, 84, 46, 47, 48, 49, 28, 27, 50, 51, 52, 53, 54, 85, 86, 87, 88, 45, 22, 61, 89, 90, 91, 92, 93, 94, 95, 96, 97, 98, 99, 100, 101, 102, 103, 104, 112, 113, 114, 115, 116, 117, 118, 119, 120, 121, 122, 123, 124, 125, 105, 106, 107, 108, 109, 110, 111] (by decide +kernel) (by decide +kernel)
set_option maxRecDepth 20000 in
theorem gX3_doStep_X3_lookBack : GoodIn wsX3_doStep (wsV RX3 118 RX3 yX3_lookBack wsX3_lookBack) := goodIn_app (goodIn_of _ (by decide +kernel)) ggX3_doStep_X3_lookBack
theorem dX3_doStep_0 : decode cX3_doStep 0 = .ok (.aload_n 2, 1) := by decide +kernel
theorem dX3_doStep_1 : decode cX3_doStep 1 = .ok (.getfield 67, 3) := by decide +kernel
theorem dX3_doStep_4 : decode cX3_doStep 4 = .ok (.iload_n 3, 1) := by decide +kernel
theorem dX3_doStep_5 : decode cX3_doStep 5 = .ok (.iaload, 1) := by decide +kernel
theorem dX3_doStep_6 : decode cX3_doStep 6 = .ok (.istore 4, 2) := by decide +kernel
theorem dX3_doStep_8 : decode cX3_doStep 8 = .ok (.aload_n 2, 1) := by decide +kernel
theorem dX3_doStep_9 : decode cX3_doStep 9 = .ok (.getfield 87, 3) := by decide +kernel
theorem dX3_doStep_12 : decode cX3_doStep 12 = .ok (.iload_n 3, 1) := by decide +kernel
theorem dX3_doStep_13 : decode cX3_doStep 13 = .ok (.iaload, 1) := by decide +kernel
theorem dX3_doStep_14 : decode cX3_doStep 14 = .ok (.istore 5, 2) := by decide +kernel
theorem dX3_doStep_16 : decode cX3_doStep 16 = .ok (.aload_n 2, 1) := by decide +kernel
theorem dX3_doStep_17 : decode cX3_doStep 17 = .ok (.getfield 49, 3) := by decide +kernel
theorem dX3_doStep_20 : decode cX3_doStep 20 = .ok (.iload_n 3, 1) := by decide +kernel
theorem dX3_doStep_21 : decode cX3_doStep 21 = .ok (.iaload, 1) := by decide +kernel
theorem dX3_doStep_22 : decode cX3_doStep 22 = .ok (.tableswitch 124 14 21 #[46, 80, 71, 89, 124, 124, 100, 112], 46) := by decide +kernel
theorem dX3_doStep_68 : decode cX3_doStep 68 = .ok (.aload_n 0, 1) := by decide +kernel
theorem dX3_doStep_69 : decode cX3_doStep 69 = .ok (.aload_n 1, 1) := by decide +kernel
theorem dX3_doStep_70 : decode cX3_doStep 70 = .ok (.aload_n 0, 1) := by decide +kernel
theorem dX3_doStep_71 : decode cX3_doStep 71 = .ok (.getfield 12, 3) := by decide +kernel
theorem dX3_doStep_74 : decode cX3_doStep 74 = .ok (.invokevirtual 100, 3) := by decide +kernel
theorem dX3_doStep_77 : decode cX3_doStep 77 = .ok (.iload 4, 2) := by decide +kernel
theorem dX3_doStep_79 : decode cX3_doStep 79 = .ok (.if_icmp .ge 7, 3) := by decide +kernel
theorem dX3_doStep_82 : decode cX3_doStep 82 = .ok (.iconst 1, 1) := by decide +kernel
theorem dX3_doStep_83 : decode cX3_doStep 83 = .ok (.goto 4, 3) := by decide +kernel
theorem dX3_doStep_86 : decode cX3_doStep 86 = .ok (.iconst 0, 1) := by decide +kernel
theorem dX3_doStep_87 : decode cX3_doStep 87 = .ok (.invokevirtual 104, 3) := by decide +kernel
theorem dX3_doStep_90 : decode cX3_doStep 90 = .ok (.goto 63, 3) := by decide +kernel
theorem dX3_doStep_93 : decode cX3_doStep 93 = .ok (.aload_n 0, 1) := by decide +kernel
theorem dX3_doStep_94 : decode cX3_doStep 94 = .ok (.aload_n 1, 1) := by decide +kernel
theorem dX3_doStep_95 : decode cX3_doStep 95 = .ok (.iconst 2, 1) := by decide +kernel
theorem dX3_doStep_96 : decode cX3_doStep 96 = .ok (.invokevirtual 104, 3) := by decide +kernel
theorem dX3_doStep_99 : decode cX3_doStep 99 = .ok (.goto 54, 3) := by decide +kernel
theorem dX3_doStep_102 : decode cX3_doStep 102 = .ok (.aload_n 0, 1) := by decide +kernel
theorem dX3_doStep_103 : decode cX3_doStep 103 = .ok (.aload_n 1, 1) := by decide +kernel
theorem dX3_doStep_104 : decode cX3_doStep 104 = .ok (.iconst 0, 1) := by decide +kernel
theorem dX3_doStep_105 : decode cX3_doStep 105 = .ok (.invokevirtual 104, 3) := by decide +kernel
theorem dX3_doStep_108 : decode cX3_doStep 108 = .ok (.goto 45, 3) := by decide +kernel
theorem dX3_doStep_111 : decode cX3_doStep 111 = .ok (.aload_n 1, 1) := by decide +kernel
theorem dX3_doStep_112 : decode cX3_doStep 112 = .ok (.aload_n 0, 1) := by decide +kernel
theorem dX3_doStep_113 : decode cX3_doStep 113 = .ok (.getfield 12, 3) := by decide +kernel
theorem dX3_doStep_116 : decode cX3_doStep 116 = .ok (.invokevirtual 108, 3) := by decide +kernel
theorem dX3_doStep_119 : decode cX3_doStep 119 = .ok (.goto 34, 3) := by decide +kernel
theorem dX3_doStep_122 : decode cX3_doStep 122 = .ok (.aload_n 1, 1) := by decide +kernel
theorem dX3_doStep_123 : decode cX3_doStep 123 = .ok (.getfield 112, 3) := by decide +kernel
theorem dX3_doStep_126 : decode cX3_doStep 126 = .ok (.iload 5, 2) := by decide +kernel
theorem dX3_doStep_128 : decode cX3_doStep 128 = .ok (.iload 4, 2) := by decide +kernel
theorem dX3_doStep_130 : decode cX3_doStep 130 = .ok (.iastore, 1) := by decide +kernel
theorem dX3_doStep_131 : decode cX3_doStep 131 = .ok (.goto 22, 3) := by decide +kernel
theorem dX3_doStep_134 : decode cX3_doStep 134 = .ok (.aload_n 1, 1) := by decide +kernel
theorem dX3_doStep_135 : decode cX3_doStep 135 = .ok (.getfield 115, 3) := by decide +kernel
theorem dX3_doStep_138 : decode cX3_doStep 138 = .ok (.iload 5, 2) := by decide +kernel
theorem dX3_doStep_140 : decode cX3_doStep 140 = .ok (.iload 4, 2) := by decide +kernel
theorem dX3_doStep_142 : decode cX3_doStep 142 = .ok (.iastore, 1) := by decide +kernel
theorem dX3_doStep_143 : decode cX3_doStep 143 = .ok (.goto 10, 3) := by decide +kernel
theorem dX3_doStep_146 : decode cX3_doStep 146 = .ok (.aload_n 0, 1) := by decide +kernel
theorem dX3_doStep_147 : decode cX3_doStep 147 = .ok (.aload_n 1, 1) := by decide +kernel
theorem dX3_doStep_148 : decode cX3_doStep 148 = .ok (.aload_n 2, 1) := by decide +kernel
theorem dX3_doStep_149 : decode cX3_doStep 149 = .ok (.iload_n 3, 1) := by decide +kernel
theorem dX3_doStep_150 : decode cX3_doStep 150 = .ok (.invokevirtual 118, 3) := by decide +kernel
theorem dX3_doStep_153 : decode cX3_doStep 153 = .ok (.return_, 1) := by decide +kernel
abbrev rmX3_doStep : Room := { frames := 4, cells := 0, slots := 0, locals := 93 }
set_option maxHeartbeats 4000000 in
set_option maxRecDepth 100000 in
theorem kX3_doStep (l : Launch) (D : va_G) (cy : Nat → ClassId) (h0 : Nat) (h_p1 : Nat) (h_p2 : Nat) (a0 : Nat → Nat) (a1 : Nat → Nat) (a2 : Nat → Nat) (a3 : Nat → Nat) (s0 : Rc) (s1 : Rc) (s2 : Rc) (s3 : Rc) (p3 : Int32) (res : Rc × Rc × Rc) (h : fX3_doStep p3 s0 s1 s2 s3 = some res) : CV l D cy yX3_doStep wsX3_doStep rmX3_doStep [.ref h0, .ref h_p1, .ref h_p2, .int p3] (flat [WX3 cy h0 a0 s0, WX2 cy (a0 0) a1 s1, WX0 cy h_p1 a2 s2, WX5 cy h_p2 a3 s3]) (flat [WX3 cy h0 a0 res.1, WX2 cy (a0 0) a1 res.2.1, WX0 cy h_p1 a2 res.2.2, WX5 cy h_p2 a3 s3]) := by
  refine CV.of (cc := cX3_doStep) (maxL := 6) (by decide) rfl (Nat.le_of_ble_eq_true rfl) ?_
  intro p e s m args below meth c A QQ ls E hr
  obtain ⟨hx, hb, hml, hown, hts, hK, hN, hP, hD, hA, hl⟩ := E
  have hret : ∀ (pc : Nat) (H : Heap) (locs : List Loc) (ls : Array Slot) (u : Rc × Rc × Rc), u = res → va_P D vwCl (flat [WX3 cy h0 a0 u.1, WX2 cy (a0 0) a1 u.2.1, WX0 cy h_p1 a2 u.2.2, WX5 cy h_p2 a3 s3]) H → va_D A (flat [WX3 cy h0 a0 u.1, WX2 cy (a0 0) a1 u.2.1, WX0 cy h_p1 a2 u.2.2, WX5 cy h_p2 a3 s3]) → va_S A s.heap H locs → decode cX3_doStep pc = .ok (.return_, 1) → W p l e rmX3_doStep s m args below meth c H locs 0 0 QQ (F0 m pc ls []) := by
    intro pc H locs ls u hu hP hD hS hd; subst hu; exact hr pc H locs ls hP hD hS hd
  clear hr
  have hl : lv_has ls 6 [(0, .ref h0), (1, .ref h_p1), (2, .ref h_p2), (3, .int p3)] := hl
  have hinX0 : ∀ w ∈ wsX00, w ∈ wsX3_doStep := fun _ h => List.mem_cons_of_mem _ (List.mem_append_left _ (List.mem_append_right _ h))
  have hinX3 : ∀ w ∈ wsX30, w ∈ wsX3_doStep := fun _ h => List.mem_cons_of_mem _ (List.mem_append_left _ (List.mem_append_left _ (List.mem_append_right _ h)))
  have hinX5 : ∀ w ∈ wsX50, w ∈ wsX3_doStep := fun _ h => List.mem_cons_of_mem _ (List.mem_append_left _ (List.mem_append_left _ (List.mem_append_left _ (List.mem_append_right _ h))))
  unfold fX3_doStep at h
  suffices key : ∀ (H : Heap) (locs : List Loc), va_P D vwCl (flat [WX3 cy h0 a0 s0, WX2 cy (a0 0) a1 s1, WX0 cy h_p1 a2 s2, WX5 cy h_p2 a3 s3]) H → va_S A s.heap H locs → W p l e rmX3_doStep s m args below meth c H locs 0 0 QQ (F0 m 0 ls []) from key _ _ hP va_S.rf
  clear hP
  intro H locs hP hS
  refine lv_aload_n hx hb dX3_doStep_0 rfl (lv_at hl 2 rfl) ?_
  refine va_getN (D := D) (ci := 5) (v := .ref (a3 3)) (C := RX5) (T := TX5) (N := 8) hx hb hts hinX5 hown hK hP 12 rfl rfl 3 (by decide) (NW.fld hN 31 rfl _) (fun _ h9 => h9) rfl dX3_doStep_1 ?_
  refine lv_iload_n hx hb dX3_doStep_4 rfl (lv_at hl 3 rfl) ?_
  obtain ⟨g1, h⟩ := gd_elim h
  refine va_iald hx hb hK hP 16 1 rfl rfl (inb_in g1) dX3_doStep_5 ?_
  refine lv_topi (fun x2 ex2 => ?_)
  replace h := lt_use h x2 ex2
  refine lv_istore (lv' := [(4, .int x2), (0, .ref h0), (1, .ref h_p1), (2, .ref h_p2), (3, .int p3)]) hx hb dX3_doStep_6 hl (by decide) rfl (fun ls hl => ?_)
  refine lv_aload_n hx hb dX3_doStep_8 rfl (lv_at hl 3 rfl) ?_
  refine va_getN (D := D) (ci := 5) (v := .ref (a3 1)) (C := RX5) (T := TX5) (N := 8) hx hb hts hinX5 hown hK hP 12 rfl rfl 1 (by decide) (NW.fld hN 27 rfl _) (fun _ h9 => h9) rfl dX3_doStep_9 ?_
  refine lv_iload_n hx hb dX3_doStep_12 rfl (lv_at hl 4 rfl) ?_
  refine va_iald hx hb hK hP 14 1 rfl rfl (inb_in g1) dX3_doStep_13 ?_
  refine lv_topi (fun x3 ex3 => ?_)
  replace h := lt_use h x3 ex3
  refine lv_istore (lv' := [(5, .int x3), (4, .int x2), (0, .ref h0), (1, .ref h_p1), (2, .ref h_p2), (3, .int p3)]) hx hb dX3_doStep_14 hl (by decide) rfl (fun ls hl => ?_)
  refine lv_aload_n hx hb dX3_doStep_16 rfl (lv_at hl 4 rfl) ?_
  refine va_getN (D := D) (ci := 5) (v := .ref (a3 0)) (C := RX5) (T := TX5) (N := 8) hx hb hts hinX5 hown hK hP 12 rfl rfl 0 (by decide) (NW.fld hN 25 rfl _) (fun _ h9 => h9) rfl dX3_doStep_17 ?_
  refine lv_iload_n hx hb dX3_doStep_20 rfl (lv_at hl 5 rfl) ?_
  refine va_iald hx hb hK hP 13 1 rfl rfl (inb_in g1) dX3_doStep_21 ?_
  by_cases c4 : (ga s3 0 p3.toNatClampNeg) = (14 : Int32)
  · replace h := (if_pos c4).symm.trans h
    refine lv_tableIn (tgt := 68) hx hb dX3_doStep_22 (by rw [c4]; decide) (by rw [c4]; decide) (by rw [c4]; rfl) (by decide) ?_
    refine lv_aload_n hx hb dX3_doStep_68 rfl (lv_at hl 2 rfl) ?_
    refine lv_aload_n hx hb dX3_doStep_69 rfl (lv_at hl 3 rfl) ?_
    refine lv_aload_n hx hb dX3_doStep_70 rfl (lv_at hl 2 rfl) ?_
    refine va_get (D := D) (ci := 3) (v := .ref (a0 0)) (C := RX3) (T := TX3) (N := 7) hx hb hts hinX3 hown hK hP 0 rfl rfl 0 (by decide) (hts (.fieldLink RX3 12 "KneeBench$Life" "draws" "LKneeBench$Draws;") (List.mem_of_getElem? (i := 1) rfl)) (fun _ h9 => h9) rfl dX3_doStep_71 ?_
    obtain ⟨r5, hr5, h⟩ := lt_elim h
    refine ca_i (w' := [WX3 cy h0 a0 s0, WX2 cy (a0 0) a1 r5.2, WX0 cy h_p1 a2 s2, WX5 cy h_p2 a3 s3]) (rn_V (As := []) (rest := [.ref h_p1, .ref h0]) ⟨hx, hb, hml, hown, hts⟩ (kX2_drawBy16 l D cy (a0 0) a1 s1 r5 hr5.symm H.size) (cwV 0 hts gX3_doStep_X2_drawBy16 rfl rfl rfl (by decide +kernel) ⟨Nat.le_of_ble_eq_true rfl, Nat.le_of_ble_eq_true rfl⟩) hK hN hP hD [1] rfl rfl (ci := 2) (q0 := 2) rfl rfl rfl rfl hl.1 rfl (Nat.le_of_ble_eq_true rfl) dX3_doStep_74 ⟨Nat.le_refl 0, Nat.le_refl 0⟩) hP hD hS hA [1] ⟨rfl, rfl, rfl, rfl⟩ (fun H locs hP hD hS => ?_)
    refine lv_iload hx hb dX3_doStep_77 (lv_at hl 1 rfl) ?_
    refine lv_icmp_ge (tgt := 86) hx hb dX3_doStep_79 (by decide) (fun c6 => ?_) (fun c6 => ?_)
    · replace h := (if_pos c6).symm.trans h
      refine lv_iconst (v := 0) hx hb dX3_doStep_86 (by decide) ?_
      obtain ⟨r7, hr7, h⟩ := lt_elim h
      refine ca_v (w' := [WX3 cy h0 a0 r7.1, WX2 cy (a0 0) a1 r5.2, WX0 cy h_p1 a2 r7.2, WX5 cy h_p2 a3 s3]) (rn_V (As := [.ref h_p1, .int (0 : Int32)]) (rest := []) ⟨hx, hb, hml, hown, hts⟩ (kX3_addDay l D cy h0 h_p1 a0 a2 s0 s2 (0 : Int32) r7 hr7.symm H.size) (cwV 2 hts gX3_doStep_X3_addDay rfl rfl rfl (by decide +kernel) ⟨Nat.le_of_ble_eq_true rfl, Nat.le_of_ble_eq_true rfl⟩) hK hN hP hD [0, 2] rfl rfl (ci := 3) (q0 := 0) rfl rfl rfl rfl hl.1 rfl (Nat.le_of_ble_eq_true rfl) dX3_doStep_87 ⟨Nat.le_refl 0, Nat.le_refl 0⟩) hP hD hS hA [0, 2] ⟨rfl, rfl, rfl, rfl⟩ (fun H locs hP hD hS => ?_)
      refine lv_goto (tgt := 153) hx hb dX3_doStep_90 (by decide) ?_
      exact hret 153 H locs ls (r7.1, r5.2, r7.2) (Option.some.inj h) hP hD hS dX3_doStep_153
    · replace h := (if_neg c6).symm.trans h
      refine lv_iconst (v := 1) hx hb dX3_doStep_82 (by decide) ?_
      refine lv_goto (tgt := 87) hx hb dX3_doStep_83 (by decide) ?_
      obtain ⟨r8, hr8, h⟩ := lt_elim h
      refine ca_v (w' := [WX3 cy h0 a0 r8.1, WX2 cy (a0 0) a1 r5.2, WX0 cy h_p1 a2 r8.2, WX5 cy h_p2 a3 s3]) (rn_V (As := [.ref h_p1, .int (1 : Int32)]) (rest := []) ⟨hx, hb, hml, hown, hts⟩ (kX3_addDay l D cy h0 h_p1 a0 a2 s0 s2 (1 : Int32) r8 hr8.symm H.size) (cwV 2 hts gX3_doStep_X3_addDay rfl rfl rfl (by decide +kernel) ⟨Nat.le_of_ble_eq_true rfl, Nat.le_of_ble_eq_true rfl⟩) hK hN hP hD [0, 2] rfl rfl (ci := 3) (q0 := 0) rfl rfl rfl rfl hl.1 rfl (Nat.le_of_ble_eq_true rfl) dX3_doStep_87 ⟨Nat.le_refl 0, Nat.le_refl 0⟩) hP hD hS hA [0, 2] ⟨rfl, rfl, rfl, rfl⟩ (fun H locs hP hD hS => ?_)
      refine lv_goto (tgt := 153) hx hb dX3_doStep_90 (by decide) ?_
      exact hret 153 H locs ls (r8.1, r5.2, r8.2) (Option.some.inj h) hP hD hS dX3_doStep_153
  replace h := (if_neg c4).symm.trans h
  by_cases c9 : (ga s3 0 p3.toNatClampNeg) = (15 : Int32)
  · replace h := (if_pos c9).symm.trans h
    refine lv_tableIn (tgt := 102) hx hb dX3_doStep_22 (by rw [c9]; decide) (by rw [c9]; decide) (by rw [c9]; rfl) (by decide) ?_
    refine lv_aload_n hx hb dX3_doStep_102 rfl (lv_at hl 2 rfl) ?_
    refine lv_aload_n hx hb dX3_doStep_103 rfl (lv_at hl 3 rfl) ?_
    refine lv_iconst (v := 0) hx hb dX3_doStep_104 (by decide) ?_
    obtain ⟨r10, hr10, h⟩ := lt_elim h
    refine ca_v (w' := [WX3 cy h0 a0 r10.1, WX2 cy (a0 0) a1 s1, WX0 cy h_p1 a2 r10.2, WX5 cy h_p2 a3 s3]) (rn_V (As := [.ref h_p1, .int (0 : Int32)]) (rest := []) ⟨hx, hb, hml, hown, hts⟩ (kX3_addDay l D cy h0 h_p1 a0 a2 s0 s2 (0 : Int32) r10 hr10.symm H.size) (cwV 2 hts gX3_doStep_X3_addDay rfl rfl rfl (by decide +kernel) ⟨Nat.le_of_ble_eq_true rfl, Nat.le_of_ble_eq_true rfl⟩) hK hN hP hD [0, 2] rfl rfl (ci := 3) (q0 := 0) rfl rfl rfl rfl hl.1 rfl (Nat.le_of_ble_eq_true rfl) dX3_doStep_105 ⟨Nat.le_refl 0, Nat.le_refl 0⟩) hP hD hS hA [0, 2] ⟨rfl, rfl, rfl, rfl⟩ (fun H locs hP hD hS => ?_)
    refine lv_goto (tgt := 153) hx hb dX3_doStep_108 (by decide) ?_
    exact hret 153 H locs ls (r10.1, s1, r10.2) (Option.some.inj h) hP hD hS dX3_doStep_153
  replace h := (if_neg c9).symm.trans h
  by_cases c11 : (ga s3 0 p3.toNatClampNeg) = (16 : Int32)
  · replace h := (if_pos c11).symm.trans h
    refine lv_tableIn (tgt := 93) hx hb dX3_doStep_22 (by rw [c11]; decide) (by rw [c11]; decide) (by rw [c11]; rfl) (by decide) ?_
    refine lv_aload_n hx hb dX3_doStep_93 rfl (lv_at hl 2 rfl) ?_
    refine lv_aload_n hx hb dX3_doStep_94 rfl (lv_at hl 3 rfl) ?_
    refine lv_iconst (v := 2) hx hb dX3_doStep_95 (by decide) ?_
    obtain ⟨r12, hr12, h⟩ := lt_elim h
    refine ca_v (w' := [WX3 cy h0 a0 r12.1, WX2 cy (a0 0) a1 s1, WX0 cy h_p1 a2 r12.2, WX5 cy h_p2 a3 s3]) (rn_V (As := [.ref h_p1, .int (2 : Int32)]) (rest := []) ⟨hx, hb, hml, hown, hts⟩ (kX3_addDay l D cy h0 h_p1 a0 a2 s0 s2 (2 : Int32) r12 hr12.symm H.size) (cwV 2 hts gX3_doStep_X3_addDay rfl rfl rfl (by decide +kernel) ⟨Nat.le_of_ble_eq_true rfl, Nat.le_of_ble_eq_true rfl⟩) hK hN hP hD [0, 2] rfl rfl (ci := 3) (q0 := 0) rfl rfl rfl rfl hl.1 rfl (Nat.le_of_ble_eq_true rfl) dX3_doStep_96 ⟨Nat.le_refl 0, Nat.le_refl 0⟩) hP hD hS hA [0, 2] ⟨rfl, rfl, rfl, rfl⟩ (fun H locs hP hD hS => ?_)
    refine lv_goto (tgt := 153) hx hb dX3_doStep_99 (by decide) ?_
    exact hret 153 H locs ls (r12.1, s1, r12.2) (Option.some.inj h) hP hD hS dX3_doStep_153
  replace h := (if_neg c11).symm.trans h
  by_cases c13 : (ga s3 0 p3.toNatClampNeg) = (17 : Int32)
  · replace h := (if_pos c13).symm.trans h
    refine lv_tableIn (tgt := 111) hx hb dX3_doStep_22 (by rw [c13]; decide) (by rw [c13]; decide) (by rw [c13]; rfl) (by decide) ?_
    refine lv_aload_n hx hb dX3_doStep_111 rfl (lv_at hl 3 rfl) ?_
    refine lv_aload_n hx hb dX3_doStep_112 rfl (lv_at hl 2 rfl) ?_
    refine va_get (D := D) (ci := 3) (v := .ref (a0 0)) (C := RX3) (T := TX3) (N := 7) hx hb hts hinX3 hown hK hP 0 rfl rfl 0 (by decide) (hts (.fieldLink RX3 12 "KneeBench$Life" "draws" "LKneeBench$Draws;") (List.mem_of_getElem? (i := 1) rfl)) (fun _ h9 => h9) rfl dX3_doStep_113 ?_
    obtain ⟨r14, hr14, h⟩ := bd_elim h
    refine ca_v (w' := [WX3 cy h0 a0 s0, WX2 cy (a0 0) a1 r14.2, WX0 cy h_p1 a2 r14.1, WX5 cy h_p2 a3 s3]) (rn_V (As := [.ref (a0 0)]) (rest := []) ⟨hx, hb, hml, hown, hts⟩ (kX0_feelBy l D cy h_p1 (a0 0) a2 a1 s2 s1 r14 hr14 H.size) (cwV 1 hts gX3_doStep_X0_feelBy rfl rfl rfl (by decide +kernel) ⟨Nat.le_of_ble_eq_true rfl, Nat.le_of_ble_eq_true rfl⟩) hK hN hP hD [2, 1] rfl rfl (ci := 0) (q0 := 3) rfl rfl rfl rfl hl.1 rfl (Nat.le_of_ble_eq_true rfl) dX3_doStep_116 ⟨Nat.le_refl 0, Nat.le_refl 0⟩) hP hD hS hA [2, 1] ⟨rfl, rfl, rfl, rfl⟩ (fun H locs hP hD hS => ?_)
    refine lv_goto (tgt := 153) hx hb dX3_doStep_119 (by decide) ?_
    exact hret 153 H locs ls (s0, r14.2, r14.1) (Option.some.inj h) hP hD hS dX3_doStep_153
  replace h := (if_neg c13).symm.trans h
  by_cases c15 : (ga s3 0 p3.toNatClampNeg) = (20 : Int32)
  · replace h := (if_pos c15).symm.trans h
    refine lv_tableIn (tgt := 122) hx hb dX3_doStep_22 (by rw [c15]; decide) (by rw [c15]; decide) (by rw [c15]; rfl) (by decide) ?_
    refine lv_aload_n hx hb dX3_doStep_122 rfl (lv_at hl 3 rfl) ?_
    refine va_getN (D := D) (ci := 0) (v := .ref (a2 4)) (C := RX0) (T := TX0) (N := 14) hx hb hts hinX0 hown hK hP 3 rfl rfl 4 (by decide) (NW.fld hN 9 rfl _) (fun _ h9 => h9) rfl dX3_doStep_123 ?_
    refine lv_iload hx hb dX3_doStep_126 (lv_at hl 0 rfl) ?_
    refine lv_iload hx hb dX3_doStep_128 (lv_at hl 1 rfl) ?_
    obtain ⟨g16, h⟩ := gd_elim h
    obtain ⟨s2_17, es, h⟩ := lt_elim h
    refine va_iast hx hb hK hP hD hS 8 1 rfl rfl (inb_in g16) dX3_doStep_130 (fun H locs hP hD hS => ?_)
    have hP : va_P D vwCl (flat [WX3 cy h0 a0 s0, WX2 cy (a0 0) a1 s1, WX0 cy h_p1 a2 s2_17, WX5 cy h_p2 a3 s3]) H := by rw [es]; exact hP
    have hD : va_D A (flat [WX3 cy h0 a0 s0, WX2 cy (a0 0) a1 s1, WX0 cy h_p1 a2 s2_17, WX5 cy h_p2 a3 s3]) := by rw [es]; exact hD
    clear es
    refine lv_goto (tgt := 153) hx hb dX3_doStep_131 (by decide) ?_
    exact hret 153 H locs ls (s0, s1, s2_17) (Option.some.inj h) hP hD hS dX3_doStep_153
  replace h := (if_neg c15).symm.trans h
  by_cases c18 : (ga s3 0 p3.toNatClampNeg) = (21 : Int32)
  · replace h := (if_pos c18).symm.trans h
    refine lv_tableIn (tgt := 134) hx hb dX3_doStep_22 (by rw [c18]; decide) (by rw [c18]; decide) (by rw [c18]; rfl) (by decide) ?_
    refine lv_aload_n hx hb dX3_doStep_134 rfl (lv_at hl 3 rfl) ?_
    refine va_getN (D := D) (ci := 0) (v := .ref (a2 3)) (C := RX0) (T := TX0) (N := 14) hx hb hts hinX0 hown hK hP 3 rfl rfl 3 (by decide) (NW.fld hN 6 rfl _) (fun _ h9 => h9) rfl dX3_doStep_135 ?_
    refine lv_iload hx hb dX3_doStep_138 (lv_at hl 0 rfl) ?_
    refine lv_iload hx hb dX3_doStep_140 (lv_at hl 1 rfl) ?_
    obtain ⟨g19, h⟩ := gd_elim h
    obtain ⟨s2_20, es, h⟩ := lt_elim h
    refine va_iast hx hb hK hP hD hS 7 1 rfl rfl (inb_in g19) dX3_doStep_142 (fun H locs hP hD hS => ?_)
    have hP : va_P D vwCl (flat [WX3 cy h0 a0 s0, WX2 cy (a0 0) a1 s1, WX0 cy h_p1 a2 s2_20, WX5 cy h_p2 a3 s3]) H := by rw [es]; exact hP
    have hD : va_D A (flat [WX3 cy h0 a0 s0, WX2 cy (a0 0) a1 s1, WX0 cy h_p1 a2 s2_20, WX5 cy h_p2 a3 s3]) := by rw [es]; exact hD
    clear es
    refine lv_goto (tgt := 153) hx hb dX3_doStep_143 (by decide) ?_
    exact hret 153 H locs ls (s0, s1, s2_20) (Option.some.inj h) hP hD hS dX3_doStep_153
  replace h := (if_neg c18).symm.trans h
  have ic4 : (ga s3 0 p3.toNatClampNeg).toInt ≠ 14 := fun z => c4 (Int32.toInt_inj.mp (z.trans (by decide)))
  have ic9 : (ga s3 0 p3.toNatClampNeg).toInt ≠ 15 := fun z => c9 (Int32.toInt_inj.mp (z.trans (by decide)))
  have ic11 : (ga s3 0 p3.toNatClampNeg).toInt ≠ 16 := fun z => c11 (Int32.toInt_inj.mp (z.trans (by decide)))
  have ic13 : (ga s3 0 p3.toNatClampNeg).toInt ≠ 17 := fun z => c13 (Int32.toInt_inj.mp (z.trans (by decide)))
  have ic15 : (ga s3 0 p3.toNatClampNeg).toInt ≠ 20 := fun z => c15 (Int32.toInt_inj.mp (z.trans (by decide)))
  have ic18 : (ga s3 0 p3.toNatClampNeg).toInt ≠ 21 := fun z => c18 (Int32.toInt_inj.mp (z.trans (by decide)))
  have hsw : (ga s3 0 p3.toNatClampNeg).toInt < 14 ∨ 21 < (ga s3 0 p3.toNatClampNeg).toInt ∨ (ga s3 0 p3.toNatClampNeg).toInt = 18 ∨ (ga s3 0 p3.toNatClampNeg).toInt = 19 := by omega
  refine lv_tdf (tgt := 146) hx hb dX3_doStep_22 ?_ (by decide) ?_
  · rcases hsw with z | z | z | z
    · exact Or.inl z
    · exact Or.inr (Or.inl z)
    · exact Or.inr (Or.inr (by rw [z]; rfl))
    · exact Or.inr (Or.inr (by rw [z]; rfl))
  refine lv_aload_n hx hb dX3_doStep_146 rfl (lv_at hl 2 rfl) ?_
  refine lv_aload_n hx hb dX3_doStep_147 rfl (lv_at hl 3 rfl) ?_
  refine lv_aload_n hx hb dX3_doStep_148 rfl (lv_at hl 4 rfl) ?_
  refine lv_iload_n hx hb dX3_doStep_149 rfl (lv_at hl 5 rfl) ?_
  obtain ⟨r21, hr21, h⟩ := bd_elim h
  refine ca_v (w' := [WX3 cy h0 a0 r21.1, WX2 cy (a0 0) a1 s1, WX0 cy h_p1 a2 r21.2, WX5 cy h_p2 a3 s3]) (rn_V (As := [.ref h_p1, .ref h_p2, .int p3]) (rest := []) ⟨hx, hb, hml, hown, hts⟩ (kX3_lookBack l D cy h0 h_p1 h_p2 a0 a2 a3 s0 s2 s3 p3 r21 hr21 H.size) (cwV 3 hts gX3_doStep_X3_lookBack rfl rfl rfl (by decide +kernel) ⟨Nat.le_of_ble_eq_true rfl, Nat.le_of_ble_eq_true rfl⟩) hK hN hP hD [0, 2, 3] rfl rfl (ci := 3) (q0 := 0) rfl rfl rfl rfl hl.1 rfl (Nat.le_of_ble_eq_true rfl) dX3_doStep_150 ⟨Nat.le_refl 0, Nat.le_refl 0⟩) hP hD hS hA [0, 2, 3] ⟨rfl, rfl, rfl, rfl⟩ (fun H locs hP hD hS => ?_)
  exact hret 153 H locs ls (r21.1, s1, r21.2) (Option.some.inj h) hP hD hS dX3_doStep_153
set_option maxRecDepth 20000 in
theorem ggX3_holds_X0_verdictOf : GoodIn wsX3_holds wsX0_verdictOf := goodIn_r _ [5, 6, 7, 8, 9, 4, 10, 11, 12, 13, 14, 15, 16, 17, 18, 19, 20, 21, 22, 23, 24, 25, 26, 27, 28, 29, 30, 31, 32, 33, 34, 35, 36, 37, 38, 39, 40, 41, 42, 43, 44, 45, 46, 47, 48, 49, 50, 63, 64, 65, 66, 67, 68, 69, 70, 71, 72, 73, 74, 75, 76] (by decide +kernel) (by decide +kernel)
set_option maxRecDepth 20000 in
theorem gX3_holds_X0_verdictOf : GoodIn wsX3_holds (wsV RX3 78 RX0 yX0_verdictOf wsX0_verdictOf) := goodIn_app (goodIn_of _ (by decide +kernel)) ggX3_holds_X0_verdictOf
set_option maxRecDepth 20000 in
theorem ggX3_holds_X3_compare : GoodIn wsX3_holds wsX3_compare := goodIn_r _ [54] (by decide +kernel) (by decide +kernel)
set_option maxRecDepth 20000 in
theorem gX3_holds_X3_compare : GoodIn wsX3_holds (va_wsS RX3 93 yX3_compare wsX3_compare) := goodIn_app (goodIn_of _ (by decide +kernel)) ggX3_holds_X3_compare
theorem dX3_holds_0 : decode cX3_holds 0 = .ok (.aload_n 1, 1) := by decide +kernel
theorem dX3_holds_1 : decode cX3_holds 1 = .ok (.getfield 67, 3) := by decide +kernel
theorem dX3_holds_4 : decode cX3_holds 4 = .ok (.iload_n 2, 1) := by decide +kernel
theorem dX3_holds_5 : decode cX3_holds 5 = .ok (.iaload, 1) := by decide +kernel
theorem dX3_holds_6 : decode cX3_holds 6 = .ok (.istore_n 3, 1) := by decide +kernel
theorem dX3_holds_7 : decode cX3_holds 7 = .ok (.aload_n 1, 1) := by decide +kernel
theorem dX3_holds_8 : decode cX3_holds 8 = .ok (.getfield 49, 3) := by decide +kernel
theorem dX3_holds_11 : decode cX3_holds 11 = .ok (.iload_n 2, 1) := by decide +kernel
theorem dX3_holds_12 : decode cX3_holds 12 = .ok (.iaload, 1) := by decide +kernel
theorem dX3_holds_13 : decode cX3_holds 13 = .ok (.lookupswitch 64 #[(24, 27), (25, 42)], 27) := by decide +kernel
theorem dX3_holds_40 : decode cX3_holds 40 = .ok (.aload_n 0, 1) := by decide +kernel
theorem dX3_holds_41 : decode cX3_holds 41 = .ok (.iload_n 3, 1) := by decide +kernel
theorem dX3_holds_42 : decode cX3_holds 42 = .ok (.invokevirtual 78, 3) := by decide +kernel
theorem dX3_holds_45 : decode cX3_holds 45 = .ok (.iconst 1, 1) := by decide +kernel
theorem dX3_holds_46 : decode cX3_holds 46 = .ok (.if_icmp .ne 7, 3) := by decide +kernel
theorem dX3_holds_49 : decode cX3_holds 49 = .ok (.iconst 1, 1) := by decide +kernel
theorem dX3_holds_50 : decode cX3_holds 50 = .ok (.goto 4, 3) := by decide +kernel
theorem dX3_holds_53 : decode cX3_holds 53 = .ok (.iconst 0, 1) := by decide +kernel
theorem dX3_holds_54 : decode cX3_holds 54 = .ok (.ireturn, 1) := by decide +kernel
theorem dX3_holds_55 : decode cX3_holds 55 = .ok (.aload_n 0, 1) := by decide +kernel
theorem dX3_holds_56 : decode cX3_holds 56 = .ok (.getfield 84, 3) := by decide +kernel
theorem dX3_holds_59 : decode cX3_holds 59 = .ok (.aload_n 1, 1) := by decide +kernel
theorem dX3_holds_60 : decode cX3_holds 60 = .ok (.getfield 87, 3) := by decide +kernel
theorem dX3_holds_63 : decode cX3_holds 63 = .ok (.iload_n 2, 1) := by decide +kernel
theorem dX3_holds_64 : decode cX3_holds 64 = .ok (.iaload, 1) := by decide +kernel
theorem dX3_holds_65 : decode cX3_holds 65 = .ok (.iaload, 1) := by decide +kernel
theorem dX3_holds_66 : decode cX3_holds 66 = .ok (.aload_n 1, 1) := by decide +kernel
theorem dX3_holds_67 : decode cX3_holds 67 = .ok (.getfield 90, 3) := by decide +kernel
theorem dX3_holds_70 : decode cX3_holds 70 = .ok (.iload_n 2, 1) := by decide +kernel
theorem dX3_holds_71 : decode cX3_holds 71 = .ok (.iaload, 1) := by decide +kernel
theorem dX3_holds_72 : decode cX3_holds 72 = .ok (.iload_n 3, 1) := by decide +kernel
theorem dX3_holds_73 : decode cX3_holds 73 = .ok (.invokestatic 93, 3) := by decide +kernel
theorem dX3_holds_76 : decode cX3_holds 76 = .ok (.ireturn, 1) := by decide +kernel
theorem dX3_holds_77 : decode cX3_holds 77 = .ok (.aload_n 0, 1) := by decide +kernel
theorem dX3_holds_78 : decode cX3_holds 78 = .ok (.getfield 97, 3) := by decide +kernel
theorem dX3_holds_81 : decode cX3_holds 81 = .ok (.aload_n 1, 1) := by decide +kernel
theorem dX3_holds_82 : decode cX3_holds 82 = .ok (.getfield 90, 3) := by decide +kernel
theorem dX3_holds_85 : decode cX3_holds 85 = .ok (.iload_n 2, 1) := by decide +kernel
theorem dX3_holds_86 : decode cX3_holds 86 = .ok (.iaload, 1) := by decide +kernel
theorem dX3_holds_87 : decode cX3_holds 87 = .ok (.iload_n 3, 1) := by decide +kernel
theorem dX3_holds_88 : decode cX3_holds 88 = .ok (.invokestatic 93, 3) := by decide +kernel
theorem dX3_holds_91 : decode cX3_holds 91 = .ok (.ireturn, 1) := by decide +kernel
abbrev rmX3_holds : Room := { frames := 4, cells := 0, slots := 0, locals := 89 }
set_option maxHeartbeats 4000000 in
set_option maxRecDepth 100000 in
theorem kX3_holds (l : Launch) (D : va_G) (cy : Nat → ClassId) (h_p1 : Nat) (h_p2 : Nat) (a0 : Nat → Nat) (a1 : Nat → Nat) (s0 : Rc) (s1 : Rc) (p3 : Int32) (res : Int32) (h : fX3_holds p3 s0 s1 = some res) : CZ l D cy yX3_holds wsX3_holds rmX3_holds [.ref h_p1, .ref h_p2, .int p3] (flat [WX0 cy h_p1 a0 s0, WX5 cy h_p2 a1 s1]) (flat [WX0 cy h_p1 a0 s0, WX5 cy h_p2 a1 s1]) res := by
  refine CZ.of (cc := cX3_holds) (maxL := 4) (by decide) rfl (Nat.le_of_ble_eq_true rfl) ?_
  intro p e s m args below meth c A QQ ls E hr
  obtain ⟨hx, hb, hml, hown, hts, hK, hN, hP, hD, hA, hl⟩ := E
  have hret : ∀ (pc : Nat) (H : Heap) (locs : List Loc) (ls : Array Slot) (u : Int32), u = res → va_P D vwCl (flat [WX0 cy h_p1 a0 s0, WX5 cy h_p2 a1 s1]) H → va_D A (flat [WX0 cy h_p1 a0 s0, WX5 cy h_p2 a1 s1]) → va_S A s.heap H locs → isb u = true → decode cX3_holds pc = .ok (.ireturn, 1) → W p l e rmX3_holds s m args below meth c H locs 0 0 QQ (F0 m pc ls [.int u]) := by
    intro pc H locs ls u hu hP hD hS hz hd; subst hu; exact hr pc H locs ls _ rfl hP hD hS hz hd
  clear hr
  have hl : lv_has ls 4 [(0, .ref h_p1), (1, .ref h_p2), (2, .int p3)] := hl
  have hinX0 : ∀ w ∈ wsX00, w ∈ wsX3_holds := fun _ h => List.mem_cons_of_mem _ (List.mem_append_right _ h)
  have hinX5 : ∀ w ∈ wsX50, w ∈ wsX3_holds := fun _ h => List.mem_cons_of_mem _ (List.mem_append_left _ (List.mem_append_right _ h))
  unfold fX3_holds at h
  suffices key : ∀ (H : Heap) (locs : List Loc), va_P D vwCl (flat [WX0 cy h_p1 a0 s0, WX5 cy h_p2 a1 s1]) H → va_S A s.heap H locs → W p l e rmX3_holds s m args below meth c H locs 0 0 QQ (F0 m 0 ls []) from key _ _ hP va_S.rf
  clear hP
  intro H locs hP hS
  refine lv_aload_n hx hb dX3_holds_0 rfl (lv_at hl 1 rfl) ?_
  refine va_getN (D := D) (ci := 5) (v := .ref (a1 3)) (C := RX5) (T := TX5) (N := 8) hx hb hts hinX5 hown hK hP 9 rfl rfl 3 (by decide) (NW.fld hN 31 rfl _) (fun _ h9 => h9) rfl dX3_holds_1 ?_
  refine lv_iload_n hx hb dX3_holds_4 rfl (lv_at hl 2 rfl) ?_
  obtain ⟨g1, h⟩ := gd_elim h
  refine va_iald hx hb hK hP 13 1 rfl rfl (inb_in g1) dX3_holds_5 ?_
  refine lv_topi (fun x2 ex2 => ?_)
  replace h := lt_use h x2 ex2
  refine lv_istore_n (lv' := [(3, .int x2), (0, .ref h_p1), (1, .ref h_p2), (2, .int p3)]) hx hb dX3_holds_6 rfl hl (by decide) rfl (fun ls hl => ?_)
  refine lv_aload_n hx hb dX3_holds_7 rfl (lv_at hl 2 rfl) ?_
  refine va_getN (D := D) (ci := 5) (v := .ref (a1 0)) (C := RX5) (T := TX5) (N := 8) hx hb hts hinX5 hown hK hP 9 rfl rfl 0 (by decide) (NW.fld hN 25 rfl _) (fun _ h9 => h9) rfl dX3_holds_8 ?_
  refine lv_iload_n hx hb dX3_holds_11 rfl (lv_at hl 3 rfl) ?_
  refine va_iald hx hb hK hP 10 1 rfl rfl (inb_in g1) dX3_holds_12 ?_
  by_cases c3 : (ga s1 0 p3.toNatClampNeg) = (24 : Int32)
  · replace h := (if_pos c3).symm.trans h
    refine lv_lookup (tgt := 40) (off := 27) hx hb dX3_holds_13 (by decide) (by rw [c3]; rfl) (by decide) ?_
    refine lv_aload_n hx hb dX3_holds_40 rfl (lv_at hl 1 rfl) ?_
    refine lv_iload_n hx hb dX3_holds_41 rfl (lv_at hl 0 rfl) ?_
    obtain ⟨r4, hr4, h⟩ := bd_elim h
    refine ca_i (w' := [WX0 cy h_p1 a0 s0, WX5 cy h_p2 a1 s1]) (rn_V (As := [.int x2]) (rest := []) ⟨hx, hb, hml, hown, hts⟩ (kX0_verdictOf l D cy h_p1 a0 s0 x2 r4 hr4 H.size) (cwV 1 hts gX3_holds_X0_verdictOf rfl rfl rfl (by decide +kernel) ⟨Nat.le_of_ble_eq_true rfl, Nat.le_of_ble_eq_true rfl⟩) hK hN hP hD [0] rfl rfl (ci := 0) (q0 := 0) rfl rfl rfl rfl hl.1 rfl (Nat.le_of_ble_eq_true rfl) dX3_holds_42 ⟨Nat.le_refl 0, Nat.le_refl 0⟩) hP hD hS hA [0] ⟨rfl, rfl, rfl, rfl⟩ (fun H locs hP hD hS => ?_)
    refine lv_iconst (v := 1) hx hb dX3_holds_45 (by decide) ?_
    refine lv_icmp_ne (tgt := 53) hx hb dX3_holds_46 (by decide) (fun c5 => ?_) (fun c5 => ?_)
    · replace h := (if_neg c5).symm.trans h
      refine lv_iconst (v := 0) hx hb dX3_holds_53 (by decide) ?_
      exact hret 54 H locs ls (0 : Int32) (Option.some.inj h) hP hD hS (show isb (0 : Int32) = true by decide) dX3_holds_54
    · replace h := (if_pos c5).symm.trans h
      refine lv_iconst (v := 1) hx hb dX3_holds_49 (by decide) ?_
      refine lv_goto (tgt := 54) hx hb dX3_holds_50 (by decide) ?_
      exact hret 54 H locs ls (1 : Int32) (Option.some.inj h) hP hD hS (show isb (1 : Int32) = true by decide) dX3_holds_54
  replace h := (if_neg c3).symm.trans h
  by_cases c6 : (ga s1 0 p3.toNatClampNeg) = (25 : Int32)
  · replace h := (if_pos c6).symm.trans h
    refine lv_lookup (tgt := 55) (off := 42) hx hb dX3_holds_13 (by decide) (by rw [c6]; rfl) (by decide) ?_
    refine lv_aload_n hx hb dX3_holds_55 rfl (lv_at hl 1 rfl) ?_
    refine va_getN (D := D) (ci := 0) (v := .ref (a0 5)) (C := RX0) (T := TX0) (N := 14) hx hb hts hinX0 hown hK hP 0 rfl rfl 5 (by decide) (NW.fld hN 11 rfl _) (fun _ h9 => h9) rfl dX3_holds_56 ?_
    refine lv_aload_n hx hb dX3_holds_59 rfl (lv_at hl 2 rfl) ?_
    refine va_getN (D := D) (ci := 5) (v := .ref (a1 1)) (C := RX5) (T := TX5) (N := 8) hx hb hts hinX5 hown hK hP 9 rfl rfl 1 (by decide) (NW.fld hN 27 rfl _) (fun _ h9 => h9) rfl dX3_holds_60 ?_
    refine lv_iload_n hx hb dX3_holds_63 rfl (lv_at hl 3 rfl) ?_
    refine va_iald hx hb hK hP 11 1 rfl rfl (inb_in g1) dX3_holds_64 ?_
    obtain ⟨g7, h⟩ := gd_elim h
    refine va_iald hx hb hK hP 6 1 rfl rfl (inb_in g7) dX3_holds_65 ?_
    refine lv_aload_n hx hb dX3_holds_66 rfl (lv_at hl 2 rfl) ?_
    refine va_getN (D := D) (ci := 5) (v := .ref (a1 2)) (C := RX5) (T := TX5) (N := 8) hx hb hts hinX5 hown hK hP 9 rfl rfl 2 (by decide) (NW.fld hN 29 rfl _) (fun _ h9 => h9) rfl dX3_holds_67 ?_
    refine lv_iload_n hx hb dX3_holds_70 rfl (lv_at hl 3 rfl) ?_
    refine va_iald hx hb hK hP 12 1 rfl rfl (inb_in g1) dX3_holds_71 ?_
    refine lv_iload_n hx hb dX3_holds_72 rfl (lv_at hl 0 rfl) ?_
    refine ca_z (w' := [WX0 cy h_p1 a0 s0, WX5 cy h_p2 a1 s1]) (rn_S (As := [.int (ga s0 5 (ga s1 1 p3.toNatClampNeg).toNatClampNeg), .int (ga s1 2 p3.toNatClampNeg), .int x2]) (rest := []) ⟨hx, hb, hml, hown, hts⟩ (kX3_compare l D cy (ga s0 5 (ga s1 1 p3.toNatClampNeg).toNatClampNeg) (ga s1 2 p3.toNatClampNeg) x2 _ rfl H.size) (va_cwS 3 hts gX3_holds_X3_compare rfl rfl rfl (by decide +kernel) ⟨Nat.le_of_ble_eq_true rfl, Nat.le_of_ble_eq_true rfl⟩) hK hN hP hD [] rfl rfl rfl hl.1 rfl (Nat.le_of_ble_eq_true rfl) dX3_holds_73 ⟨Nat.le_refl 0, Nat.le_refl 0⟩) hP hD hS hA [] ⟨rfl, rfl, rfl, rfl⟩ (fun b8 H locs hP hD hS => ?_)
    exact hret 76 H locs ls (fX3_compare (ga s0 5 (ga s1 1 p3.toNatClampNeg).toNatClampNeg) (ga s1 2 p3.toNatClampNeg) x2) (Option.some.inj h) hP hD hS b8 dX3_holds_76
  replace h := (if_neg c6).symm.trans h
  refine lv_lookup (tgt := 77) (off := 64) hx hb dX3_holds_13 (by decide) ((if_neg (fun z => c3 (Int32.toInt_inj.mp (z.symm.trans (by decide))))).trans ((if_neg (fun z => c6 (Int32.toInt_inj.mp (z.symm.trans (by decide))))).trans rfl)) (by decide) ?_
  refine lv_aload_n hx hb dX3_holds_77 rfl (lv_at hl 1 rfl) ?_
  refine va_getN (D := D) (ci := 0) (v := .int (gi s0 9)) (C := RX0) (T := TX0) (N := 14) hx hb hts hinX0 hown hK hP 0 rfl rfl 9 (by decide) (NW.fld hN 17 rfl _) (fun _ h9 => h9) rfl dX3_holds_78 ?_
  refine lv_aload_n hx hb dX3_holds_81 rfl (lv_at hl 2 rfl) ?_
  refine va_getN (D := D) (ci := 5) (v := .ref (a1 2)) (C := RX5) (T := TX5) (N := 8) hx hb hts hinX5 hown hK hP 9 rfl rfl 2 (by decide) (NW.fld hN 29 rfl _) (fun _ h9 => h9) rfl dX3_holds_82 ?_
  refine lv_iload_n hx hb dX3_holds_85 rfl (lv_at hl 3 rfl) ?_
  refine va_iald hx hb hK hP 12 1 rfl rfl (inb_in g1) dX3_holds_86 ?_
  refine lv_iload_n hx hb dX3_holds_87 rfl (lv_at hl 0 rfl) ?_
  refine ca_z (w' := [WX0 cy h_p1 a0 s0, WX5 cy h_p2 a1 s1]) (rn_S (As := [.int (gi s0 9), .int (ga s1 2 p3.toNatClampNeg), .int x2]) (rest := []) ⟨hx, hb, hml, hown, hts⟩ (kX3_compare l D cy (gi s0 9) (ga s1 2 p3.toNatClampNeg) x2 _ rfl H.size) (va_cwS 3 hts gX3_holds_X3_compare rfl rfl rfl (by decide +kernel) ⟨Nat.le_of_ble_eq_true rfl, Nat.le_of_ble_eq_true rfl⟩) hK hN hP hD [] rfl rfl rfl hl.1 rfl (Nat.le_of_ble_eq_true rfl) dX3_holds_88 ⟨Nat.le_refl 0, Nat.le_refl 0⟩) hP hD hS hA [] ⟨rfl, rfl, rfl, rfl⟩ (fun b9 H locs hP hD hS => ?_)
  exact hret 91 H locs ls (fX3_compare (gi s0 9) (ga s1 2 p3.toNatClampNeg) x2) (Option.some.inj h) hP hD hS b9 dX3_holds_91
theorem dX3_goRound_0 : decode cX3_goRound 0 = .ok (.aload_n 1, 1) := by decide +kernel
theorem dX3_goRound_1 : decode cX3_goRound 1 = .ok (.getfield 64, 3) := by decide +kernel
theorem dX3_goRound_4 : decode cX3_goRound 4 = .ok (.iload_n 2, 1) := by decide +kernel
theorem dX3_goRound_5 : decode cX3_goRound 5 = .ok (.iaload, 1) := by decide +kernel
theorem dX3_goRound_6 : decode cX3_goRound 6 = .ok (.istore_n 3, 1) := by decide +kernel
theorem dX3_goRound_7 : decode cX3_goRound 7 = .ok (.aload_n 1, 1) := by decide +kernel
theorem dX3_goRound_8 : decode cX3_goRound 8 = .ok (.getfield 49, 3) := by decide +kernel
theorem dX3_goRound_11 : decode cX3_goRound 11 = .ok (.iload_n 3, 1) := by decide +kernel
theorem dX3_goRound_12 : decode cX3_goRound 12 = .ok (.iaload, 1) := by decide +kernel
theorem dX3_goRound_13 : decode cX3_goRound 13 = .ok (.bipush 27, 2) := by decide +kernel
theorem dX3_goRound_15 : decode cX3_goRound 15 = .ok (.if_icmp .eq 7, 3) := by decide +kernel
theorem dX3_goRound_18 : decode cX3_goRound 18 = .ok (.iload_n 2, 1) := by decide +kernel
theorem dX3_goRound_19 : decode cX3_goRound 19 = .ok (.iconst 1, 1) := by decide +kernel
theorem dX3_goRound_20 : decode cX3_goRound 20 = .ok (.iadd, 1) := by decide +kernel
theorem dX3_goRound_21 : decode cX3_goRound 21 = .ok (.ireturn, 1) := by decide +kernel
theorem dX3_goRound_22 : decode cX3_goRound 22 = .ok (.aload_n 0, 1) := by decide +kernel
theorem dX3_goRound_23 : decode cX3_goRound 23 = .ok (.getfield 18, 3) := by decide +kernel
theorem dX3_goRound_26 : decode cX3_goRound 26 = .ok (.iload_n 3, 1) := by decide +kernel
theorem dX3_goRound_27 : decode cX3_goRound 27 = .ok (.dup2, 1) := by decide +kernel
theorem dX3_goRound_28 : decode cX3_goRound 28 = .ok (.iaload, 1) := by decide +kernel
theorem dX3_goRound_29 : decode cX3_goRound 29 = .ok (.iconst 1, 1) := by decide +kernel
theorem dX3_goRound_30 : decode cX3_goRound 30 = .ok (.isub, 1) := by decide +kernel
theorem dX3_goRound_31 : decode cX3_goRound 31 = .ok (.iastore, 1) := by decide +kernel
theorem dX3_goRound_32 : decode cX3_goRound 32 = .ok (.aload_n 0, 1) := by decide +kernel
theorem dX3_goRound_33 : decode cX3_goRound 33 = .ok (.getfield 18, 3) := by decide +kernel
theorem dX3_goRound_36 : decode cX3_goRound 36 = .ok (.iload_n 3, 1) := by decide +kernel
theorem dX3_goRound_37 : decode cX3_goRound 37 = .ok (.iaload, 1) := by decide +kernel
theorem dX3_goRound_38 : decode cX3_goRound 38 = .ok (.ifCond .le 9, 3) := by decide +kernel
theorem dX3_goRound_41 : decode cX3_goRound 41 = .ok (.iload_n 3, 1) := by decide +kernel
theorem dX3_goRound_42 : decode cX3_goRound 42 = .ok (.iconst 1, 1) := by decide +kernel
theorem dX3_goRound_43 : decode cX3_goRound 43 = .ok (.iadd, 1) := by decide +kernel
theorem dX3_goRound_44 : decode cX3_goRound 44 = .ok (.goto 6, 3) := by decide +kernel
theorem dX3_goRound_47 : decode cX3_goRound 47 = .ok (.iload_n 2, 1) := by decide +kernel
theorem dX3_goRound_48 : decode cX3_goRound 48 = .ok (.iconst 1, 1) := by decide +kernel
theorem dX3_goRound_49 : decode cX3_goRound 49 = .ok (.iadd, 1) := by decide +kernel
theorem dX3_goRound_50 : decode cX3_goRound 50 = .ok (.ireturn, 1) := by decide +kernel
abbrev rmX3_goRound : Room := { frames := 0, cells := 0, slots := 0, locals := 0 }
set_option maxHeartbeats 4000000 in
set_option maxRecDepth 100000 in
theorem kX3_goRound (l : Launch) (D : va_G) (cy : Nat → ClassId) (h0 : Nat) (h_p1 : Nat) (a0 : Nat → Nat) (a1 : Nat → Nat) (s0 : Rc) (s1 : Rc) (p2 : Int32) (res : Int32 × Rc) (h : fX3_goRound p2 s0 s1 = some res) : CI l D cy yX3_goRound wsX3_goRound rmX3_goRound [.ref h0, .ref h_p1, .int p2] (flat [WX3 cy h0 a0 s0, WX5 cy h_p1 a1 s1]) (flat [WX3 cy h0 a0 res.2, WX5 cy h_p1 a1 s1]) res.1 := by
  refine CI.of (cc := cX3_goRound) (maxL := 4) (by decide) rfl (Nat.le_of_ble_eq_true rfl) ?_
  intro p e s m args below meth c A QQ ls E hr
  obtain ⟨hx, hb, hml, hown, hts, hK, hN, hP, hD, hA, hl⟩ := E
  have hret : ∀ (pc : Nat) (H : Heap) (locs : List Loc) (ls : Array Slot) (u : Int32 × Rc), u = res → va_P D vwCl (flat [WX3 cy h0 a0 u.2, WX5 cy h_p1 a1 s1]) H → va_D A (flat [WX3 cy h0 a0 u.2, WX5 cy h_p1 a1 s1]) → va_S A s.heap H locs → decode cX3_goRound pc = .ok (.ireturn, 1) → W p l e rmX3_goRound s m args below meth c H locs 0 0 QQ (F0 m pc ls [.int u.1]) := by
    intro pc H locs ls u hu hP hD hS hd; subst hu; exact hr pc H locs ls _ rfl hP hD hS hd
  clear hr
  have hl : lv_has ls 4 [(0, .ref h0), (1, .ref h_p1), (2, .int p2)] := hl
  have hinX3 : ∀ w ∈ wsX30, w ∈ wsX3_goRound := fun _ h => List.mem_cons_of_mem _ (List.mem_append_right _ h)
  have hinX5 : ∀ w ∈ wsX50, w ∈ wsX3_goRound := fun _ h => List.mem_cons_of_mem _ (List.mem_append_left _ (List.mem_append_right _ h))
  unfold fX3_goRound at h
  suffices key : ∀ (H : Heap) (locs : List Loc), va_P D vwCl (flat [WX3 cy h0 a0 s0, WX5 cy h_p1 a1 s1]) H → va_S A s.heap H locs → W p l e rmX3_goRound s m args below meth c H locs 0 0 QQ (F0 m 0 ls []) from key _ _ hP va_S.rf
  clear hP
  intro H locs hP hS
  refine lv_aload_n hx hb dX3_goRound_0 rfl (lv_at hl 1 rfl) ?_
  refine va_getN (D := D) (ci := 5) (v := .ref (a1 4)) (C := RX5) (T := TX5) (N := 8) hx hb hts hinX5 hown hK hP 2 rfl rfl 4 (by decide) (NW.fld hN 34 rfl _) (fun _ h9 => h9) rfl dX3_goRound_1 ?_
  refine lv_iload_n hx hb dX3_goRound_4 rfl (lv_at hl 2 rfl) ?_
  obtain ⟨g1, h⟩ := gd_elim h
  refine va_iald hx hb hK hP 7 1 rfl rfl (inb_in g1) dX3_goRound_5 ?_
  refine lv_topi (fun x2 ex2 => ?_)
  replace h := lt_use h x2 ex2
  refine lv_istore_n (lv' := [(3, .int x2), (0, .ref h0), (1, .ref h_p1), (2, .int p2)]) hx hb dX3_goRound_6 rfl hl (by decide) rfl (fun ls hl => ?_)
  refine lv_aload_n hx hb dX3_goRound_7 rfl (lv_at hl 2 rfl) ?_
  refine va_getN (D := D) (ci := 5) (v := .ref (a1 0)) (C := RX5) (T := TX5) (N := 8) hx hb hts hinX5 hown hK hP 2 rfl rfl 0 (by decide) (NW.fld hN 25 rfl _) (fun _ h9 => h9) rfl dX3_goRound_8 ?_
  refine lv_iload_n hx hb dX3_goRound_11 rfl (lv_at hl 0 rfl) ?_
  obtain ⟨g3, h⟩ := gd_elim h
  refine va_iald hx hb hK hP 3 1 rfl rfl (inb_in g3) dX3_goRound_12 ?_
  refine lv_bipush (v := 27) hx hb dX3_goRound_13 (by decide) ?_
  refine lv_icmp_eq (tgt := 22) hx hb dX3_goRound_15 (by decide) (fun c4 => ?_) (fun c4 => ?_)
  · replace h := (if_pos c4).symm.trans h
    refine lv_aload_n hx hb dX3_goRound_22 rfl (lv_at hl 1 rfl) ?_
    refine va_get (D := D) (ci := 3) (v := .ref (a0 1)) (C := RX3) (T := TX3) (N := 7) hx hb hts hinX3 hown hK hP 0 rfl rfl 1 (by decide) (hts (.fieldLink RX3 18 "KneeBench$Life" "rounds" "[I") (List.mem_of_getElem? (i := 1) rfl)) (fun _ h9 => h9) rfl dX3_goRound_23 ?_
    refine lv_iload_n hx hb dX3_goRound_26 rfl (lv_at hl 0 rfl) ?_
    refine lv_dup2_11 hx hb dX3_goRound_27 rfl rfl ?_
    refine va_iald hx hb hK hP 1 1 rfl rfl (inb_in g3) dX3_goRound_28 ?_
    refine lv_iconst (v := 1) hx hb dX3_goRound_29 (by decide) ?_
    refine lv_isub hx hb dX3_goRound_30 ?_
    obtain ⟨s0_5, es, h⟩ := lt_elim h
    refine va_iast hx hb hK hP hD hS 1 1 rfl rfl (inb_in g3) dX3_goRound_31 (fun H locs hP hD hS => ?_)
    have hP : va_P D vwCl (flat [WX3 cy h0 a0 s0_5, WX5 cy h_p1 a1 s1]) H := by rw [es]; exact hP
    have hD : va_D A (flat [WX3 cy h0 a0 s0_5, WX5 cy h_p1 a1 s1]) := by rw [es]; exact hD
    clear es
    refine lv_aload_n hx hb dX3_goRound_32 rfl (lv_at hl 1 rfl) ?_
    refine va_get (D := D) (ci := 3) (v := .ref (a0 1)) (C := RX3) (T := TX3) (N := 7) hx hb hts hinX3 hown hK hP 0 rfl rfl 1 (by decide) (hts (.fieldLink RX3 18 "KneeBench$Life" "rounds" "[I") (List.mem_of_getElem? (i := 1) rfl)) (fun _ h9 => h9) rfl dX3_goRound_33 ?_
    refine lv_iload_n hx hb dX3_goRound_36 rfl (lv_at hl 0 rfl) ?_
    refine va_iald hx hb hK hP 1 1 rfl rfl (inb_in g3) dX3_goRound_37 ?_
    refine lv_if_le (tgt := 47) hx hb dX3_goRound_38 (by decide) (fun c6 => ?_) (fun c6 => ?_)
    · replace h := (if_pos c6).symm.trans h
      refine lv_iload_n hx hb dX3_goRound_47 rfl (lv_at hl 3 rfl) ?_
      refine lv_iconst (v := 1) hx hb dX3_goRound_48 (by decide) ?_
      refine lv_iadd hx hb dX3_goRound_49 ?_
      exact hret 50 H locs ls ((p2 + (1 : Int32)), s0_5) (Option.some.inj h) hP hD hS dX3_goRound_50
    · replace h := (if_neg c6).symm.trans h
      refine lv_iload_n hx hb dX3_goRound_41 rfl (lv_at hl 0 rfl) ?_
      refine lv_iconst (v := 1) hx hb dX3_goRound_42 (by decide) ?_
      refine lv_iadd hx hb dX3_goRound_43 ?_
      refine lv_goto (tgt := 50) hx hb dX3_goRound_44 (by decide) ?_
      exact hret 50 H locs ls ((x2 + (1 : Int32)), s0_5) (Option.some.inj h) hP hD hS dX3_goRound_50
  · replace h := (if_neg c4).symm.trans h
    refine lv_iload_n hx hb dX3_goRound_18 rfl (lv_at hl 3 rfl) ?_
    refine lv_iconst (v := 1) hx hb dX3_goRound_19 (by decide) ?_
    refine lv_iadd hx hb dX3_goRound_20 ?_
    exact hret 21 H locs ls ((p2 + (1 : Int32)), s0) (Option.some.inj h) hP hD hS dX3_goRound_21
set_option maxRecDepth 20000 in
theorem ggX3_follow_X3_holds : GoodIn wsX3_follow wsX3_holds := goodIn_r _ [5, 6, 7, 8, 9, 10, 11, 12, 13, 14, 15, 16, 17, 18, 19, 20, 21, 22, 23, 24, 25, 26, 27, 28, 29, 30, 31, 32, 33, 34, 35, 36, 37, 38, 39, 40, 41, 42, 43, 44, 45, 46, 47, 48, 49, 50, 51, 52, 53, 54, 55, 56, 57, 4, 58, 140, 141, 142, 143, 144, 145, 146, 147, 155, 156, 157, 158, 159, 160, 161, 162, 163, 164, 165, 166, 167, 168] (by decide +kernel) (by decide +kernel)
set_option maxRecDepth 20000 in
theorem gX3_follow_X3_holds : GoodIn wsX3_follow (va_wsS RX3 60 yX3_holds wsX3_holds) := goodIn_app (goodIn_of _ (by decide +kernel)) ggX3_follow_X3_holds
set_option maxRecDepth 20000 in
theorem ggX3_follow_X3_goRound : GoodIn wsX3_follow wsX3_goRound := goodIn_r _ [62, 1, 140, 141, 142, 143, 144, 145, 146, 147, 148, 149, 150, 151, 152, 153, 154] (by decide +kernel) (by decide +kernel)
set_option maxRecDepth 20000 in
theorem gX3_follow_X3_goRound : GoodIn wsX3_follow (wsV RX3 70 RX3 yX3_goRound wsX3_goRound) := goodIn_app (goodIn_of _ (by decide +kernel)) ggX3_follow_X3_goRound
set_option maxRecDepth 20000 in
theorem ggX3_follow_X3_doStep : GoodIn wsX3_follow wsX3_doStep := goodIn_r _ [66, 67, 68, 69, 70, 71, 72, 73, 74, 75, 76, 77, 4, 78, 79, 80, 81, 82, 83, 84, 9, 85, 22, 86, 87, 88, 89, 90, 91, 92, 48, 49, 50, 93, 94, 95, 96, 16, 97, 98, 36, 99, 100, 101, 102, 21, 103, 104, 105, 106, 107, 108, 109, 110, 111, 112, 113, 114, 115, 116, 117, 23, 118, 119, 120, 121, 122, 123, 124, 125, 126, 127, 128, 129, 130, 131, 132, 133, 134, 135, 136, 55, 137, 138, 139, 17, 18, 19, 20, 28, 29, 30, 31, 32, 33, 34, 35, 140, 141, 142, 143, 144, 145, 146, 147, 148, 149, 150, 151, 152, 153, 154, 155, 156, 157, 158, 159, 160, 161, 162, 163, 164, 165, 166, 167, 168, 169] (by decide +kernel) (by decide +kernel)
set_option maxRecDepth 20000 in
theorem gX3_follow_X3_doStep : GoodIn wsX3_follow (wsV RX3 74 RX3 yX3_doStep wsX3_doStep) := goodIn_app (goodIn_of _ (by decide +kernel)) ggX3_follow_X3_doStep
theorem dX3_follow_0 : decode cX3_follow 0 = .ok (.aload_n 2, 1) := by decide +kernel
theorem dX3_follow_1 : decode cX3_follow 1 = .ok (.getfield 49, 3) := by decide +kernel
theorem dX3_follow_4 : decode cX3_follow 4 = .ok (.iload_n 3, 1) := by decide +kernel
theorem dX3_follow_5 : decode cX3_follow 5 = .ok (.iaload, 1) := by decide +kernel
theorem dX3_follow_6 : decode cX3_follow 6 = .ok (.tableswitch 90 24 29 #[38, 38, 38, 62, 78, 85], 38) := by decide +kernel
theorem dX3_follow_44 : decode cX3_follow 44 = .ok (.aload_n 1, 1) := by decide +kernel
theorem dX3_follow_45 : decode cX3_follow 45 = .ok (.aload_n 2, 1) := by decide +kernel
theorem dX3_follow_46 : decode cX3_follow 46 = .ok (.iload_n 3, 1) := by decide +kernel
theorem dX3_follow_47 : decode cX3_follow 47 = .ok (.invokestatic 60, 3) := by decide +kernel
theorem dX3_follow_50 : decode cX3_follow 50 = .ok (.ifCond .eq 9, 3) := by decide +kernel
theorem dX3_follow_53 : decode cX3_follow 53 = .ok (.iload_n 3, 1) := by decide +kernel
theorem dX3_follow_54 : decode cX3_follow 54 = .ok (.iconst 1, 1) := by decide +kernel
theorem dX3_follow_55 : decode cX3_follow 55 = .ok (.iadd, 1) := by decide +kernel
theorem dX3_follow_56 : decode cX3_follow 56 = .ok (.goto 11, 3) := by decide +kernel
theorem dX3_follow_59 : decode cX3_follow 59 = .ok (.aload_n 2, 1) := by decide +kernel
theorem dX3_follow_60 : decode cX3_follow 60 = .ok (.getfield 64, 3) := by decide +kernel
theorem dX3_follow_63 : decode cX3_follow 63 = .ok (.iload_n 3, 1) := by decide +kernel
theorem dX3_follow_64 : decode cX3_follow 64 = .ok (.iaload, 1) := by decide +kernel
theorem dX3_follow_65 : decode cX3_follow 65 = .ok (.iconst 1, 1) := by decide +kernel
theorem dX3_follow_66 : decode cX3_follow 66 = .ok (.iadd, 1) := by decide +kernel
theorem dX3_follow_67 : decode cX3_follow 67 = .ok (.ireturn, 1) := by decide +kernel
theorem dX3_follow_68 : decode cX3_follow 68 = .ok (.aload_n 0, 1) := by decide +kernel
theorem dX3_follow_69 : decode cX3_follow 69 = .ok (.getfield 18, 3) := by decide +kernel
theorem dX3_follow_72 : decode cX3_follow 72 = .ok (.iload_n 3, 1) := by decide +kernel
theorem dX3_follow_73 : decode cX3_follow 73 = .ok (.aload_n 2, 1) := by decide +kernel
theorem dX3_follow_74 : decode cX3_follow 74 = .ok (.getfield 67, 3) := by decide +kernel
theorem dX3_follow_77 : decode cX3_follow 77 = .ok (.iload_n 3, 1) := by decide +kernel
theorem dX3_follow_78 : decode cX3_follow 78 = .ok (.iaload, 1) := by decide +kernel
theorem dX3_follow_79 : decode cX3_follow 79 = .ok (.iastore, 1) := by decide +kernel
theorem dX3_follow_80 : decode cX3_follow 80 = .ok (.iload_n 3, 1) := by decide +kernel
theorem dX3_follow_81 : decode cX3_follow 81 = .ok (.iconst 1, 1) := by decide +kernel
theorem dX3_follow_82 : decode cX3_follow 82 = .ok (.iadd, 1) := by decide +kernel
theorem dX3_follow_83 : decode cX3_follow 83 = .ok (.ireturn, 1) := by decide +kernel
theorem dX3_follow_84 : decode cX3_follow 84 = .ok (.aload_n 0, 1) := by decide +kernel
theorem dX3_follow_85 : decode cX3_follow 85 = .ok (.aload_n 2, 1) := by decide +kernel
theorem dX3_follow_86 : decode cX3_follow 86 = .ok (.iload_n 3, 1) := by decide +kernel
theorem dX3_follow_87 : decode cX3_follow 87 = .ok (.invokevirtual 70, 3) := by decide +kernel
theorem dX3_follow_90 : decode cX3_follow 90 = .ok (.ireturn, 1) := by decide +kernel
theorem dX3_follow_91 : decode cX3_follow 91 = .ok (.aload_n 2, 1) := by decide +kernel
theorem dX3_follow_92 : decode cX3_follow 92 = .ok (.getfield 44, 3) := by decide +kernel
theorem dX3_follow_95 : decode cX3_follow 95 = .ok (.ireturn, 1) := by decide +kernel
theorem dX3_follow_96 : decode cX3_follow 96 = .ok (.aload_n 0, 1) := by decide +kernel
theorem dX3_follow_97 : decode cX3_follow 97 = .ok (.aload_n 1, 1) := by decide +kernel
theorem dX3_follow_98 : decode cX3_follow 98 = .ok (.aload_n 2, 1) := by decide +kernel
theorem dX3_follow_99 : decode cX3_follow 99 = .ok (.iload_n 3, 1) := by decide +kernel
theorem dX3_follow_100 : decode cX3_follow 100 = .ok (.invokevirtual 74, 3) := by decide +kernel
theorem dX3_follow_103 : decode cX3_follow 103 = .ok (.iload_n 3, 1) := by decide +kernel
theorem dX3_follow_104 : decode cX3_follow 104 = .ok (.iconst 1, 1) := by decide +kernel
theorem dX3_follow_105 : decode cX3_follow 105 = .ok (.iadd, 1) := by decide +kernel
theorem dX3_follow_106 : decode cX3_follow 106 = .ok (.ireturn, 1) := by decide +kernel
abbrev rmX3_follow : Room := { frames := 5, cells := 0, slots := 0, locals := 118 }
set_option maxHeartbeats 4000000 in
set_option maxRecDepth 100000 in
theorem kX3_follow (l : Launch) (D : va_G) (cy : Nat → ClassId) (h0 : Nat) (h_p1 : Nat) (h_p2 : Nat) (a0 : Nat → Nat) (a1 : Nat → Nat) (a2 : Nat → Nat) (a3 : Nat → Nat) (s0 : Rc) (s1 : Rc) (s2 : Rc) (s3 : Rc) (p3 : Int32) (res : Int32 × Rc × Rc × Rc) (h : fX3_follow p3 s0 s1 s2 s3 = some res) : CI l D cy yX3_follow wsX3_follow rmX3_follow [.ref h0, .ref h_p1, .ref h_p2, .int p3] (flat [WX3 cy h0 a0 s0, WX2 cy (a0 0) a1 s1, WX0 cy h_p1 a2 s2, WX5 cy h_p2 a3 s3]) (flat [WX3 cy h0 a0 res.2.1, WX2 cy (a0 0) a1 res.2.2.1, WX0 cy h_p1 a2 res.2.2.2, WX5 cy h_p2 a3 s3]) res.1 := by
  refine CI.of (cc := cX3_follow) (maxL := 4) (by decide) rfl (Nat.le_of_ble_eq_true rfl) ?_
  intro p e s m args below meth c A QQ ls E hr
  obtain ⟨hx, hb, hml, hown, hts, hK, hN, hP, hD, hA, hl⟩ := E
  have hret : ∀ (pc : Nat) (H : Heap) (locs : List Loc) (ls : Array Slot) (u : Int32 × Rc × Rc × Rc), u = res → va_P D vwCl (flat [WX3 cy h0 a0 u.2.1, WX2 cy (a0 0) a1 u.2.2.1, WX0 cy h_p1 a2 u.2.2.2, WX5 cy h_p2 a3 s3]) H → va_D A (flat [WX3 cy h0 a0 u.2.1, WX2 cy (a0 0) a1 u.2.2.1, WX0 cy h_p1 a2 u.2.2.2, WX5 cy h_p2 a3 s3]) → va_S A s.heap H locs → decode cX3_follow pc = .ok (.ireturn, 1) → W p l e rmX3_follow s m args below meth c H locs 0 0 QQ (F0 m pc ls [.int u.1]) := by
    intro pc H locs ls u hu hP hD hS hd; subst hu; exact hr pc H locs ls _ rfl hP hD hS hd
  clear hr
  have hl : lv_has ls 4 [(0, .ref h0), (1, .ref h_p1), (2, .ref h_p2), (3, .int p3)] := hl
  have hinX3 : ∀ w ∈ wsX30, w ∈ wsX3_follow := fun _ h => List.mem_cons_of_mem _ (List.mem_append_left _ (List.mem_append_left _ (List.mem_append_right _ h)))
  have hinX5 : ∀ w ∈ wsX50, w ∈ wsX3_follow := fun _ h => List.mem_cons_of_mem _ (List.mem_append_left _ (List.mem_append_left _ (List.mem_append_left _ (List.mem_append_right _ h))))
  unfold fX3_follow at h
  suffices key : ∀ (H : Heap) (locs : List Loc), va_P D vwCl (flat [WX3 cy h0 a0 s0, WX2 cy (a0 0) a1 s1, WX0 cy h_p1 a2 s2, WX5 cy h_p2 a3 s3]) H → va_S A s.heap H locs → W p l e rmX3_follow s m args below meth c H locs 0 0 QQ (F0 m 0 ls []) from key _ _ hP va_S.rf
  clear hP
  intro H locs hP hS
  refine lv_aload_n hx hb dX3_follow_0 rfl (lv_at hl 2 rfl) ?_
  refine va_getN (D := D) (ci := 5) (v := .ref (a3 0)) (C := RX5) (T := TX5) (N := 8) hx hb hts hinX5 hown hK hP 12 rfl rfl 0 (by decide) (NW.fld hN 25 rfl _) (fun _ h9 => h9) rfl dX3_follow_1 ?_
  refine lv_iload_n hx hb dX3_follow_4 rfl (lv_at hl 3 rfl) ?_
  obtain ⟨g1, h⟩ := gd_elim h
  refine va_iald hx hb hK hP 13 1 rfl rfl (inb_in g1) dX3_follow_5 ?_
  by_cases c2 : (ga s3 0 p3.toNatClampNeg) = (24 : Int32)
  · replace h := (if_pos c2).symm.trans h
    refine lv_tableIn (tgt := 44) hx hb dX3_follow_6 (by rw [c2]; decide) (by rw [c2]; decide) (by rw [c2]; rfl) (by decide) ?_
    refine lv_aload_n hx hb dX3_follow_44 rfl (lv_at hl 1 rfl) ?_
    refine lv_aload_n hx hb dX3_follow_45 rfl (lv_at hl 2 rfl) ?_
    refine lv_iload_n hx hb dX3_follow_46 rfl (lv_at hl 3 rfl) ?_
    obtain ⟨r3, hr3, h⟩ := bd_elim h
    refine ca_z (w' := [WX3 cy h0 a0 s0, WX2 cy (a0 0) a1 s1, WX0 cy h_p1 a2 s2, WX5 cy h_p2 a3 s3]) (rn_S (As := [.ref h_p1, .ref h_p2, .int p3]) (rest := []) ⟨hx, hb, hml, hown, hts⟩ (kX3_holds l D cy h_p1 h_p2 a2 a3 s2 s3 p3 r3 hr3 H.size) (va_cwS 3 hts gX3_follow_X3_holds rfl rfl rfl (by decide +kernel) ⟨Nat.le_of_ble_eq_true rfl, Nat.le_of_ble_eq_true rfl⟩) hK hN hP hD [2, 3] rfl rfl rfl hl.1 rfl (Nat.le_of_ble_eq_true rfl) dX3_follow_47 ⟨Nat.le_refl 0, Nat.le_refl 0⟩) hP hD hS hA [2, 3] ⟨rfl, rfl, rfl, rfl⟩ (fun b4 H locs hP hD hS => ?_)
    refine lv_if_eq (tgt := 59) hx hb dX3_follow_50 (by decide) (fun c5 => ?_) (fun c5 => ?_)
    · replace h := (if_pos c5).symm.trans h
      refine lv_aload_n hx hb dX3_follow_59 rfl (lv_at hl 2 rfl) ?_
      refine va_getN (D := D) (ci := 5) (v := .ref (a3 4)) (C := RX5) (T := TX5) (N := 8) hx hb hts hinX5 hown hK hP 12 rfl rfl 4 (by decide) (NW.fld hN 34 rfl _) (fun _ h9 => h9) rfl dX3_follow_60 ?_
      refine lv_iload_n hx hb dX3_follow_63 rfl (lv_at hl 3 rfl) ?_
      refine va_iald hx hb hK hP 17 1 rfl rfl (inb_in g1) dX3_follow_64 ?_
      refine lv_iconst (v := 1) hx hb dX3_follow_65 (by decide) ?_
      refine lv_iadd hx hb dX3_follow_66 ?_
      exact hret 67 H locs ls (((ga s3 4 p3.toNatClampNeg) + (1 : Int32)), s0, s1, s2) (Option.some.inj h) hP hD hS dX3_follow_67
    · replace h := (if_neg c5).symm.trans h
      refine lv_iload_n hx hb dX3_follow_53 rfl (lv_at hl 3 rfl) ?_
      refine lv_iconst (v := 1) hx hb dX3_follow_54 (by decide) ?_
      refine lv_iadd hx hb dX3_follow_55 ?_
      refine lv_goto (tgt := 67) hx hb dX3_follow_56 (by decide) ?_
      exact hret 67 H locs ls ((p3 + (1 : Int32)), s0, s1, s2) (Option.some.inj h) hP hD hS dX3_follow_67
  replace h := (if_neg c2).symm.trans h
  by_cases c6 : (ga s3 0 p3.toNatClampNeg) = (25 : Int32)
  · replace h := (if_pos c6).symm.trans h
    refine lv_tableIn (tgt := 44) hx hb dX3_follow_6 (by rw [c6]; decide) (by rw [c6]; decide) (by rw [c6]; rfl) (by decide) ?_
    refine lv_aload_n hx hb dX3_follow_44 rfl (lv_at hl 1 rfl) ?_
    refine lv_aload_n hx hb dX3_follow_45 rfl (lv_at hl 2 rfl) ?_
    refine lv_iload_n hx hb dX3_follow_46 rfl (lv_at hl 3 rfl) ?_
    obtain ⟨r7, hr7, h⟩ := bd_elim h
    refine ca_z (w' := [WX3 cy h0 a0 s0, WX2 cy (a0 0) a1 s1, WX0 cy h_p1 a2 s2, WX5 cy h_p2 a3 s3]) (rn_S (As := [.ref h_p1, .ref h_p2, .int p3]) (rest := []) ⟨hx, hb, hml, hown, hts⟩ (kX3_holds l D cy h_p1 h_p2 a2 a3 s2 s3 p3 r7 hr7 H.size) (va_cwS 3 hts gX3_follow_X3_holds rfl rfl rfl (by decide +kernel) ⟨Nat.le_of_ble_eq_true rfl, Nat.le_of_ble_eq_true rfl⟩) hK hN hP hD [2, 3] rfl rfl rfl hl.1 rfl (Nat.le_of_ble_eq_true rfl) dX3_follow_47 ⟨Nat.le_refl 0, Nat.le_refl 0⟩) hP hD hS hA [2, 3] ⟨rfl, rfl, rfl, rfl⟩ (fun b8 H locs hP hD hS => ?_)
    refine lv_if_eq (tgt := 59) hx hb dX3_follow_50 (by decide) (fun c9 => ?_) (fun c9 => ?_)
    · replace h := (if_pos c9).symm.trans h
      refine lv_aload_n hx hb dX3_follow_59 rfl (lv_at hl 2 rfl) ?_
      refine va_getN (D := D) (ci := 5) (v := .ref (a3 4)) (C := RX5) (T := TX5) (N := 8) hx hb hts hinX5 hown hK hP 12 rfl rfl 4 (by decide) (NW.fld hN 34 rfl _) (fun _ h9 => h9) rfl dX3_follow_60 ?_
      refine lv_iload_n hx hb dX3_follow_63 rfl (lv_at hl 3 rfl) ?_
      refine va_iald hx hb hK hP 17 1 rfl rfl (inb_in g1) dX3_follow_64 ?_
      refine lv_iconst (v := 1) hx hb dX3_follow_65 (by decide) ?_
      refine lv_iadd hx hb dX3_follow_66 ?_
      exact hret 67 H locs ls (((ga s3 4 p3.toNatClampNeg) + (1 : Int32)), s0, s1, s2) (Option.some.inj h) hP hD hS dX3_follow_67
    · replace h := (if_neg c9).symm.trans h
      refine lv_iload_n hx hb dX3_follow_53 rfl (lv_at hl 3 rfl) ?_
      refine lv_iconst (v := 1) hx hb dX3_follow_54 (by decide) ?_
      refine lv_iadd hx hb dX3_follow_55 ?_
      refine lv_goto (tgt := 67) hx hb dX3_follow_56 (by decide) ?_
      exact hret 67 H locs ls ((p3 + (1 : Int32)), s0, s1, s2) (Option.some.inj h) hP hD hS dX3_follow_67
  replace h := (if_neg c6).symm.trans h
  by_cases c10 : (ga s3 0 p3.toNatClampNeg) = (26 : Int32)
  · replace h := (if_pos c10).symm.trans h
    refine lv_tableIn (tgt := 44) hx hb dX3_follow_6 (by rw [c10]; decide) (by rw [c10]; decide) (by rw [c10]; rfl) (by decide) ?_
    refine lv_aload_n hx hb dX3_follow_44 rfl (lv_at hl 1 rfl) ?_
    refine lv_aload_n hx hb dX3_follow_45 rfl (lv_at hl 2 rfl) ?_
    refine lv_iload_n hx hb dX3_follow_46 rfl (lv_at hl 3 rfl) ?_
    obtain ⟨r11, hr11, h⟩ := bd_elim h
    refine ca_z (w' := [WX3 cy h0 a0 s0, WX2 cy (a0 0) a1 s1, WX0 cy h_p1 a2 s2, WX5 cy h_p2 a3 s3]) (rn_S (As := [.ref h_p1, .ref h_p2, .int p3]) (rest := []) ⟨hx, hb, hml, hown, hts⟩ (kX3_holds l D cy h_p1 h_p2 a2 a3 s2 s3 p3 r11 hr11 H.size) (va_cwS 3 hts gX3_follow_X3_holds rfl rfl rfl (by decide +kernel) ⟨Nat.le_of_ble_eq_true rfl, Nat.le_of_ble_eq_true rfl⟩) hK hN hP hD [2, 3] rfl rfl rfl hl.1 rfl (Nat.le_of_ble_eq_true rfl) dX3_follow_47 ⟨Nat.le_refl 0, Nat.le_refl 0⟩) hP hD hS hA [2, 3] ⟨rfl, rfl, rfl, rfl⟩ (fun b12 H locs hP hD hS => ?_)
    refine lv_if_eq (tgt := 59) hx hb dX3_follow_50 (by decide) (fun c13 => ?_) (fun c13 => ?_)
    · replace h := (if_pos c13).symm.trans h
      refine lv_aload_n hx hb dX3_follow_59 rfl (lv_at hl 2 rfl) ?_
      refine va_getN (D := D) (ci := 5) (v := .ref (a3 4)) (C := RX5) (T := TX5) (N := 8) hx hb hts hinX5 hown hK hP 12 rfl rfl 4 (by decide) (NW.fld hN 34 rfl _) (fun _ h9 => h9) rfl dX3_follow_60 ?_
      refine lv_iload_n hx hb dX3_follow_63 rfl (lv_at hl 3 rfl) ?_
      refine va_iald hx hb hK hP 17 1 rfl rfl (inb_in g1) dX3_follow_64 ?_
      refine lv_iconst (v := 1) hx hb dX3_follow_65 (by decide) ?_
      refine lv_iadd hx hb dX3_follow_66 ?_
      exact hret 67 H locs ls (((ga s3 4 p3.toNatClampNeg) + (1 : Int32)), s0, s1, s2) (Option.some.inj h) hP hD hS dX3_follow_67
    · replace h := (if_neg c13).symm.trans h
      refine lv_iload_n hx hb dX3_follow_53 rfl (lv_at hl 3 rfl) ?_
      refine lv_iconst (v := 1) hx hb dX3_follow_54 (by decide) ?_
      refine lv_iadd hx hb dX3_follow_55 ?_
      refine lv_goto (tgt := 67) hx hb dX3_follow_56 (by decide) ?_
      exact hret 67 H locs ls ((p3 + (1 : Int32)), s0, s1, s2) (Option.some.inj h) hP hD hS dX3_follow_67
  replace h := (if_neg c10).symm.trans h
  by_cases c14 : (ga s3 0 p3.toNatClampNeg) = (27 : Int32)
  · replace h := (if_pos c14).symm.trans h
    refine lv_tableIn (tgt := 68) hx hb dX3_follow_6 (by rw [c14]; decide) (by rw [c14]; decide) (by rw [c14]; rfl) (by decide) ?_
    refine lv_aload_n hx hb dX3_follow_68 rfl (lv_at hl 0 rfl) ?_
    refine va_get (D := D) (ci := 3) (v := .ref (a0 1)) (C := RX3) (T := TX3) (N := 7) hx hb hts hinX3 hown hK hP 0 rfl rfl 1 (by decide) (hts (.fieldLink RX3 18 "KneeBench$Life" "rounds" "[I") (List.mem_of_getElem? (i := 1) rfl)) (fun _ h9 => h9) rfl dX3_follow_69 ?_
    refine lv_iload_n hx hb dX3_follow_72 rfl (lv_at hl 3 rfl) ?_
    refine lv_aload_n hx hb dX3_follow_73 rfl (lv_at hl 2 rfl) ?_
    refine va_getN (D := D) (ci := 5) (v := .ref (a3 3)) (C := RX5) (T := TX5) (N := 8) hx hb hts hinX5 hown hK hP 12 rfl rfl 3 (by decide) (NW.fld hN 31 rfl _) (fun _ h9 => h9) rfl dX3_follow_74 ?_
    refine lv_iload_n hx hb dX3_follow_77 rfl (lv_at hl 3 rfl) ?_
    refine va_iald hx hb hK hP 16 1 rfl rfl (inb_in g1) dX3_follow_78 ?_
    obtain ⟨s0_15, es, h⟩ := lt_elim h
    refine va_iast hx hb hK hP hD hS 1 1 rfl rfl (inb_in g1) dX3_follow_79 (fun H locs hP hD hS => ?_)
    have hP : va_P D vwCl (flat [WX3 cy h0 a0 s0_15, WX2 cy (a0 0) a1 s1, WX0 cy h_p1 a2 s2, WX5 cy h_p2 a3 s3]) H := by rw [es]; exact hP
    have hD : va_D A (flat [WX3 cy h0 a0 s0_15, WX2 cy (a0 0) a1 s1, WX0 cy h_p1 a2 s2, WX5 cy h_p2 a3 s3]) := by rw [es]; exact hD
    clear es
    refine lv_iload_n hx hb dX3_follow_80 rfl (lv_at hl 3 rfl) ?_
    refine lv_iconst (v := 1) hx hb dX3_follow_81 (by decide) ?_
    refine lv_iadd hx hb dX3_follow_82 ?_
    exact hret 83 H locs ls ((p3 + (1 : Int32)), s0_15, s1, s2) (Option.some.inj h) hP hD hS dX3_follow_83
  replace h := (if_neg c14).symm.trans h
  by_cases c16 : (ga s3 0 p3.toNatClampNeg) = (28 : Int32)
  · replace h := (if_pos c16).symm.trans h
    refine lv_tableIn (tgt := 84) hx hb dX3_follow_6 (by rw [c16]; decide) (by rw [c16]; decide) (by rw [c16]; rfl) (by decide) ?_
    refine lv_aload_n hx hb dX3_follow_84 rfl (lv_at hl 0 rfl) ?_
    refine lv_aload_n hx hb dX3_follow_85 rfl (lv_at hl 2 rfl) ?_
    refine lv_iload_n hx hb dX3_follow_86 rfl (lv_at hl 3 rfl) ?_
    obtain ⟨r17, hr17, h⟩ := bd_elim h
    refine ca_i (w' := [WX3 cy h0 a0 r17.2, WX2 cy (a0 0) a1 s1, WX0 cy h_p1 a2 s2, WX5 cy h_p2 a3 s3]) (rn_V (As := [.ref h_p2, .int p3]) (rest := []) ⟨hx, hb, hml, hown, hts⟩ (kX3_goRound l D cy h0 h_p2 a0 a3 s0 s3 p3 r17 hr17 H.size) (cwV 2 hts gX3_follow_X3_goRound rfl rfl rfl (by decide +kernel) ⟨Nat.le_of_ble_eq_true rfl, Nat.le_of_ble_eq_true rfl⟩) hK hN hP hD [0, 3] rfl rfl (ci := 3) (q0 := 0) rfl rfl rfl rfl hl.1 rfl (Nat.le_of_ble_eq_true rfl) dX3_follow_87 ⟨Nat.le_refl 0, Nat.le_refl 0⟩) hP hD hS hA [0, 3] ⟨rfl, rfl, rfl, rfl⟩ (fun H locs hP hD hS => ?_)
    exact hret 90 H locs ls (r17.1, r17.2, s1, s2) (Option.some.inj h) hP hD hS dX3_follow_90
  replace h := (if_neg c16).symm.trans h
  by_cases c18 : (ga s3 0 p3.toNatClampNeg) = (29 : Int32)
  · replace h := (if_pos c18).symm.trans h
    refine lv_tableIn (tgt := 91) hx hb dX3_follow_6 (by rw [c18]; decide) (by rw [c18]; decide) (by rw [c18]; rfl) (by decide) ?_
    refine lv_aload_n hx hb dX3_follow_91 rfl (lv_at hl 2 rfl) ?_
    refine va_getN (D := D) (ci := 5) (v := .int (gi s3 5)) (C := RX5) (T := TX5) (N := 8) hx hb hts hinX5 hown hK hP 12 rfl rfl 5 (by decide) (NW.fld hN 35 rfl _) (fun _ h9 => h9) rfl dX3_follow_92 ?_
    exact hret 95 H locs ls ((gi s3 5), s0, s1, s2) (Option.some.inj h) hP hD hS dX3_follow_95
  replace h := (if_neg c18).symm.trans h
  have ic2 : (ga s3 0 p3.toNatClampNeg).toInt ≠ 24 := fun z => c2 (Int32.toInt_inj.mp (z.trans (by decide)))
  have ic6 : (ga s3 0 p3.toNatClampNeg).toInt ≠ 25 := fun z => c6 (Int32.toInt_inj.mp (z.trans (by decide)))
  have ic10 : (ga s3 0 p3.toNatClampNeg).toInt ≠ 26 := fun z => c10 (Int32.toInt_inj.mp (z.trans (by decide)))
  have ic14 : (ga s3 0 p3.toNatClampNeg).toInt ≠ 27 := fun z => c14 (Int32.toInt_inj.mp (z.trans (by decide)))
  have ic16 : (ga s3 0 p3.toNatClampNeg).toInt ≠ 28 := fun z => c16 (Int32.toInt_inj.mp (z.trans (by decide)))
  have ic18 : (ga s3 0 p3.toNatClampNeg).toInt ≠ 29 := fun z => c18 (Int32.toInt_inj.mp (z.trans (by decide)))
  have hsw : (ga s3 0 p3.toNatClampNeg).toInt < 24 ∨ 29 < (ga s3 0 p3.toNatClampNeg).toInt := by omega
  refine lv_tdf (tgt := 96) hx hb dX3_follow_6 ?_ (by decide) ?_
  · rcases hsw with z | z
    · exact Or.inl z
    · exact Or.inr (Or.inl z)
  refine lv_aload_n hx hb dX3_follow_96 rfl (lv_at hl 0 rfl) ?_
  refine lv_aload_n hx hb dX3_follow_97 rfl (lv_at hl 1 rfl) ?_
  refine lv_aload_n hx hb dX3_follow_98 rfl (lv_at hl 2 rfl) ?_
  refine lv_iload_n hx hb dX3_follow_99 rfl (lv_at hl 3 rfl) ?_
  obtain ⟨r19, hr19, h⟩ := bd_elim h
  refine ca_v (w' := [WX3 cy h0 a0 r19.1, WX2 cy (a0 0) a1 r19.2.1, WX0 cy h_p1 a2 r19.2.2, WX5 cy h_p2 a3 s3]) (rn_V (As := [.ref h_p1, .ref h_p2, .int p3]) (rest := []) ⟨hx, hb, hml, hown, hts⟩ (kX3_doStep l D cy h0 h_p1 h_p2 a0 a1 a2 a3 s0 s1 s2 s3 p3 r19 hr19 H.size) (cwV 3 hts gX3_follow_X3_doStep rfl rfl rfl (by decide +kernel) ⟨Nat.le_of_ble_eq_true rfl, Nat.le_of_ble_eq_true rfl⟩) hK hN hP hD [0, 1, 2, 3] rfl rfl (ci := 3) (q0 := 0) rfl rfl rfl rfl hl.1 rfl (Nat.le_of_ble_eq_true rfl) dX3_follow_100 ⟨Nat.le_refl 0, Nat.le_refl 0⟩) hP hD hS hA [0, 1, 2, 3] ⟨rfl, rfl, rfl, rfl⟩ (fun H locs hP hD hS => ?_)
  refine lv_iload_n hx hb dX3_follow_103 rfl (lv_at hl 3 rfl) ?_
  refine lv_iconst (v := 1) hx hb dX3_follow_104 (by decide) ?_
  refine lv_iadd hx hb dX3_follow_105 ?_
  exact hret 106 H locs ls ((p3 + (1 : Int32)), r19.1, r19.2.1, r19.2.2) (Option.some.inj h) hP hD hS dX3_follow_106
set_option maxRecDepth 20000 in
theorem ggX3_run_X2_begin : GoodIn wsX3_run wsX2_begin := goodIn_r _ [12, 13, 166] (by decide +kernel) (by decide +kernel)
set_option maxRecDepth 20000 in
theorem gX3_run_X2_begin : GoodIn wsX3_run (wsV RX3 39 RX2 yX2_begin wsX2_begin) := goodIn_app (goodIn_of _ (by decide +kernel)) ggX3_run_X2_begin
set_option maxRecDepth 20000 in
theorem ggX3_run_X10_bit : GoodIn wsX3_run wsX10_bit := goodIn_r _ [16] (by decide +kernel) (by decide +kernel)
set_option maxRecDepth 20000 in
theorem gX3_run_X10_bit_n52 : GoodIn wsX3_run (wsX10_bit) := ggX3_run_X10_bit
set_option maxRecDepth 20000 in
theorem ggX3_run_X3_follow : GoodIn wsX3_run wsX3_follow := goodIn_r _ [21, 22, 23, 24, 20, 25, 26, 27, 28, 29, 30, 31, 32, 33, 34, 35, 36, 37, 38, 39, 40, 41, 42, 43, 44, 45, 46, 47, 48, 49, 50, 51, 52, 53, 54, 55, 56, 57, 58, 59, 60, 61, 62, 63, 64, 65, 66, 67, 14, 15, 16, 68, 69, 70, 71, 72, 73, 74, 75, 76, 77, 78, 79, 80, 81, 82, 83, 1, 84, 85, 86, 11, 87, 13, 88, 89, 90, 91, 92, 3, 4, 5, 93, 94, 95, 96, 97, 98, 99, 100, 101, 102, 103, 104, 105, 106, 107, 108, 109, 110, 111, 112, 113, 114, 115, 116, 117, 118, 119, 120, 121, 122, 123, 124, 125, 126, 127, 128, 129, 130, 131, 132, 133, 134, 135, 136, 137, 138, 139, 140, 141, 142, 143, 144, 145, 146, 147, 148, 149, 150, 158, 159, 160, 161, 162, 163, 164, 165, 151, 152, 153, 154, 155, 156, 157, 167, 168, 169, 170, 171, 172, 173, 174, 175, 176, 177, 178, 179, 180, 166] (by decide +kernel) (by decide +kernel)
set_option maxRecDepth 20000 in
theorem gX3_run_X3_follow : GoodIn wsX3_run (wsV RX3 56 RX3 yX3_follow wsX3_follow) := goodIn_app (goodIn_of _ (by decide +kernel)) ggX3_run_X3_follow
theorem dX3_run_0 : decode cX3_run 0 = .ok (.aload_n 0, 1) := by decide +kernel
theorem dX3_run_1 : decode cX3_run 1 = .ok (.getfield 12, 3) := by decide +kernel
theorem dX3_run_4 : decode cX3_run 4 = .ok (.iload_n 3, 1) := by decide +kernel
theorem dX3_run_5 : decode cX3_run 5 = .ok (.invokevirtual 39, 3) := by decide +kernel
theorem dX3_run_8 : decode cX3_run 8 = .ok (.aload_n 0, 1) := by decide +kernel
theorem dX3_run_9 : decode cX3_run 9 = .ok (.iconst 0, 1) := by decide +kernel
theorem dX3_run_10 : decode cX3_run 10 = .ok (.putfield 22, 3) := by decide +kernel
theorem dX3_run_13 : decode cX3_run 13 = .ok (.aload_n 0, 1) := by decide +kernel
theorem dX3_run_14 : decode cX3_run 14 = .ok (.iconst 0, 1) := by decide +kernel
theorem dX3_run_15 : decode cX3_run 15 = .ok (.putfield 26, 3) := by decide +kernel
theorem dX3_run_18 : decode cX3_run 18 = .ok (.aload_n 0, 1) := by decide +kernel
theorem dX3_run_19 : decode cX3_run 19 = .ok (.iconst 0, 1) := by decide +kernel
theorem dX3_run_20 : decode cX3_run 20 = .ok (.putfield 29, 3) := by decide +kernel
theorem dX3_run_23 : decode cX3_run 23 = .ok (.aload_n 0, 1) := by decide +kernel
theorem dX3_run_24 : decode cX3_run 24 = .ok (.iconst 0, 1) := by decide +kernel
theorem dX3_run_25 : decode cX3_run 25 = .ok (.putfield 32, 3) := by decide +kernel
theorem dX3_run_28 : decode cX3_run 28 = .ok (.aload_n 0, 1) := by decide +kernel
theorem dX3_run_29 : decode cX3_run 29 = .ok (.iconst 0, 1) := by decide +kernel
theorem dX3_run_30 : decode cX3_run 30 = .ok (.putfield 35, 3) := by decide +kernel
theorem dX3_run_33 : decode cX3_run 33 = .ok (.iconst 0, 1) := by decide +kernel
theorem dX3_run_34 : decode cX3_run 34 = .ok (.istore 4, 2) := by decide +kernel
theorem dX3_run_36 : decode cX3_run 36 = .ok (.iconst 0, 1) := by decide +kernel
theorem dX3_run_37 : decode cX3_run 37 = .ok (.istore 5, 2) := by decide +kernel
theorem dX3_run_39 : decode cX3_run 39 = .ok (.iload 5, 2) := by decide +kernel
theorem dX3_run_41 : decode cX3_run 41 = .ok (.ldc 43, 2) := by decide +kernel
theorem dX3_run_43 : decode cX3_run 43 = .ok (.if_icmp .ge 91, 3) := by decide +kernel
theorem dX3_run_46 : decode cX3_run 46 = .ok (.iload 4, 2) := by decide +kernel
theorem dX3_run_48 : decode cX3_run 48 = .ok (.aload_n 2, 1) := by decide +kernel
theorem dX3_run_49 : decode cX3_run 49 = .ok (.getfield 44, 3) := by decide +kernel
theorem dX3_run_52 : decode cX3_run 52 = .ok (.if_icmp .ge 82, 3) := by decide +kernel
theorem dX3_run_55 : decode cX3_run 55 = .ok (.aload_n 0, 1) := by decide +kernel
theorem dX3_run_56 : decode cX3_run 56 = .ok (.getfield 35, 3) := by decide +kernel
theorem dX3_run_59 : decode cX3_run 59 = .ok (.ifCond .ne 75, 3) := by decide +kernel
theorem dX3_run_62 : decode cX3_run 62 = .ok (.aload_n 2, 1) := by decide +kernel
theorem dX3_run_63 : decode cX3_run 63 = .ok (.getfield 49, 3) := by decide +kernel
theorem dX3_run_66 : decode cX3_run 66 = .ok (.iload 4, 2) := by decide +kernel
theorem dX3_run_68 : decode cX3_run 68 = .ok (.iaload, 1) := by decide +kernel
theorem dX3_run_69 : decode cX3_run 69 = .ok (.bipush 28, 2) := by decide +kernel
theorem dX3_run_71 : decode cX3_run 71 = .ok (.if_icmp .eq 7, 3) := by decide +kernel
theorem dX3_run_74 : decode cX3_run 74 = .ok (.iconst 1, 1) := by decide +kernel
theorem dX3_run_75 : decode cX3_run 75 = .ok (.goto 4, 3) := by decide +kernel
theorem dX3_run_78 : decode cX3_run 78 = .ok (.iconst 0, 1) := by decide +kernel
theorem dX3_run_79 : decode cX3_run 79 = .ok (.istore 6, 2) := by decide +kernel
theorem dX3_run_81 : decode cX3_run 81 = .ok (.iload 6, 2) := by decide +kernel
theorem dX3_run_83 : decode cX3_run 83 = .ok (.ifCond .eq 21, 3) := by decide +kernel
theorem dX3_run_86 : decode cX3_run 86 = .ok (.aload_n 0, 1) := by decide +kernel
theorem dX3_run_87 : decode cX3_run 87 = .ok (.getfield 22, 3) := by decide +kernel
theorem dX3_run_90 : decode cX3_run 90 = .ok (.sipush 200, 3) := by decide +kernel
theorem dX3_run_93 : decode cX3_run 93 = .ok (.if_icmp .ne 11, 3) := by decide +kernel
theorem dX3_run_96 : decode cX3_run 96 = .ok (.aload_n 0, 1) := by decide +kernel
theorem dX3_run_97 : decode cX3_run 97 = .ok (.iconst 1, 1) := by decide +kernel
theorem dX3_run_98 : decode cX3_run 98 = .ok (.putfield 35, 3) := by decide +kernel
theorem dX3_run_101 : decode cX3_run 101 = .ok (.goto 27, 3) := by decide +kernel
theorem dX3_run_104 : decode cX3_run 104 = .ok (.aload_n 0, 1) := by decide +kernel
theorem dX3_run_105 : decode cX3_run 105 = .ok (.dup, 1) := by decide +kernel
theorem dX3_run_106 : decode cX3_run 106 = .ok (.getfield 22, 3) := by decide +kernel
theorem dX3_run_109 : decode cX3_run 109 = .ok (.iload 6, 2) := by decide +kernel
theorem dX3_run_111 : decode cX3_run 111 = .ok (.invokestatic 52, 3) := by decide +kernel
theorem dX3_run_114 : decode cX3_run 114 = .ok (.iadd, 1) := by decide +kernel
theorem dX3_run_115 : decode cX3_run 115 = .ok (.putfield 22, 3) := by decide +kernel
theorem dX3_run_118 : decode cX3_run 118 = .ok (.aload_n 0, 1) := by decide +kernel
theorem dX3_run_119 : decode cX3_run 119 = .ok (.aload_n 1, 1) := by decide +kernel
theorem dX3_run_120 : decode cX3_run 120 = .ok (.aload_n 2, 1) := by decide +kernel
theorem dX3_run_121 : decode cX3_run 121 = .ok (.iload 4, 2) := by decide +kernel
theorem dX3_run_123 : decode cX3_run 123 = .ok (.invokevirtual 56, 3) := by decide +kernel
theorem dX3_run_126 : decode cX3_run 126 = .ok (.istore 4, 2) := by decide +kernel
theorem dX3_run_128 : decode cX3_run 128 = .ok (.iinc 5 1, 3) := by decide +kernel
theorem dX3_run_131 : decode cX3_run 131 = .ok (.goto (-92), 3) := by decide +kernel
theorem dX3_run_134 : decode cX3_run 134 = .ok (.return_, 1) := by decide +kernel
abbrev rmX3_run : Room := { frames := 6, cells := 0, slots := 0, locals := 141 }
set_option maxHeartbeats 4000000 in
set_option maxRecDepth 100000 in
theorem kX3_run (l : Launch) (D : va_G) (cy : Nat → ClassId) (h0 : Nat) (h_p1 : Nat) (h_p2 : Nat) (a0 : Nat → Nat) (a1 : Nat → Nat) (a2 : Nat → Nat) (a3 : Nat → Nat) (s0 : Rc) (s1 : Rc) (s2 : Rc) (s3 : Rc) (p3 : Int32) (res : Rc × Rc × Rc) (h : fX3_run p3 s0 s1 s2 s3 = some res) : CV l D cy yX3_run wsX3_run rmX3_run [.ref h0, .ref h_p1, .ref h_p2, .int p3] (flat [WX3 cy h0 a0 s0, WX2 cy (a0 0) a1 s1, WX0 cy h_p1 a2 s2, WX5 cy h_p2 a3 s3]) (flat [WX3 cy h0 a0 res.1, WX2 cy (a0 0) a1 res.2.1, WX0 cy h_p1 a2 res.2.2, WX5 cy h_p2 a3 s3]) := by
  refine CV.of (cc := cX3_run) (maxL := 7) (by decide) rfl (Nat.le_of_ble_eq_true rfl) ?_
  intro p e s m args below meth c A QQ ls E hr
  obtain ⟨hx, hb, hml, hown, hts, hK, hN, hP, hD, hA, hl⟩ := E
  have hret : ∀ (pc : Nat) (H : Heap) (locs : List Loc) (ls : Array Slot) (u : Rc × Rc × Rc), u = res → va_P D vwCl (flat [WX3 cy h0 a0 u.1, WX2 cy (a0 0) a1 u.2.1, WX0 cy h_p1 a2 u.2.2, WX5 cy h_p2 a3 s3]) H → va_D A (flat [WX3 cy h0 a0 u.1, WX2 cy (a0 0) a1 u.2.1, WX0 cy h_p1 a2 u.2.2, WX5 cy h_p2 a3 s3]) → va_S A s.heap H locs → decode cX3_run pc = .ok (.return_, 1) → W p l e rmX3_run s m args below meth c H locs 0 0 QQ (F0 m pc ls []) := by
    intro pc H locs ls u hu hP hD hS hd; subst hu; exact hr pc H locs ls hP hD hS hd
  clear hr
  have hl : lv_has ls 7 [(0, .ref h0), (1, .ref h_p1), (2, .ref h_p2), (3, .int p3)] := hl
  have hinX3 : ∀ w ∈ wsX30, w ∈ wsX3_run := fun _ h => List.mem_cons_of_mem _ (List.mem_append_left _ (List.mem_append_left _ (List.mem_append_left _ (List.mem_append_right _ h))))
  have hinX5 : ∀ w ∈ wsX50, w ∈ wsX3_run := fun _ h => List.mem_cons_of_mem _ (List.mem_append_left _ (List.mem_append_left _ (List.mem_append_right _ h)))
  unfold fX3_run at h
  suffices key : ∀ (H : Heap) (locs : List Loc), va_P D vwCl (flat [WX3 cy h0 a0 s0, WX2 cy (a0 0) a1 s1, WX0 cy h_p1 a2 s2, WX5 cy h_p2 a3 s3]) H → va_S A s.heap H locs → W p l e rmX3_run s m args below meth c H locs 0 0 QQ (F0 m 0 ls []) from key _ _ hP va_S.rf
  clear hP
  intro H locs hP hS
  refine lv_aload_n hx hb dX3_run_0 rfl (lv_at hl 0 rfl) ?_
  refine va_get (D := D) (ci := 3) (v := .ref (a0 0)) (C := RX3) (T := TX3) (N := 7) hx hb hts hinX3 hown hK hP 0 rfl rfl 0 (by decide) (hts (.fieldLink RX3 12 "KneeBench$Life" "draws" "LKneeBench$Draws;") (List.mem_of_getElem? (i := 1) rfl)) (fun _ h9 => h9) rfl dX3_run_1 ?_
  refine lv_iload_n hx hb dX3_run_4 rfl (lv_at hl 3 rfl) ?_
  obtain ⟨r1, hr1, h⟩ := lt_elim h
  refine ca_v (w' := [WX3 cy h0 a0 s0, WX2 cy (a0 0) a1 r1, WX0 cy h_p1 a2 s2, WX5 cy h_p2 a3 s3]) (rn_V (As := [.int p3]) (rest := []) ⟨hx, hb, hml, hown, hts⟩ (kX2_begin l D cy (a0 0) a1 s1 p3 r1 hr1.symm H.size) (cwV 1 hts gX3_run_X2_begin rfl rfl rfl (by decide +kernel) ⟨Nat.le_of_ble_eq_true rfl, Nat.le_of_ble_eq_true rfl⟩) hK hN hP hD [1] rfl rfl (ci := 2) (q0 := 2) rfl rfl rfl rfl hl.1 rfl (Nat.le_of_ble_eq_true rfl) dX3_run_5 ⟨Nat.le_refl 0, Nat.le_refl 0⟩) hP hD hS hA [1] ⟨rfl, rfl, rfl, rfl⟩ (fun H locs hP hD hS => ?_)
  refine lv_aload_n hx hb dX3_run_8 rfl (lv_at hl 0 rfl) ?_
  refine lv_iconst (v := 0) hx hb dX3_run_9 (by decide) ?_
  obtain ⟨s0_2, es, h⟩ := lt_elim h
  refine va_put (D := D) (ci := 3) (v := .int (0 : Int32)) (ty := .int) (C := RX3) (T := TX3) (N := 7) hx hb hts hinX3 tyX3 tyX3_ok nmX3 hown hK hP hD hS 0 rfl rfl 2 (by decide) (hts (.fieldLink RX3 22 "KneeBench$Life" "steps" "I") (List.mem_of_getElem? (i := 2) rfl)) (fun _ h9 => h9) rfl (by decide +kernel) rfl rfl (Nat.le_of_ble_eq_true rfl) dX3_run_10 (fun H locs hP hD hS => ?_)
  have hP : va_P D vwCl (flat [WX3 cy h0 a0 s0_2, WX2 cy (a0 0) a1 r1, WX0 cy h_p1 a2 s2, WX5 cy h_p2 a3 s3]) H := by rw [es]; exact hP
  have hD : va_D A (flat [WX3 cy h0 a0 s0_2, WX2 cy (a0 0) a1 r1, WX0 cy h_p1 a2 s2, WX5 cy h_p2 a3 s3]) := by rw [es]; exact hD
  clear es
  refine lv_aload_n hx hb dX3_run_13 rfl (lv_at hl 0 rfl) ?_
  refine lv_iconst (v := 0) hx hb dX3_run_14 (by decide) ?_
  obtain ⟨s0_3, es, h⟩ := lt_elim h
  refine va_put (D := D) (ci := 3) (v := .int (0 : Int32)) (ty := .int) (C := RX3) (T := TX3) (N := 7) hx hb hts hinX3 tyX3 tyX3_ok nmX3 hown hK hP hD hS 0 rfl rfl 3 (by decide) (hts (.fieldLink RX3 26 "KneeBench$Life" "missed" "I") (List.mem_of_getElem? (i := 3) rfl)) (fun _ h9 => h9) rfl (by decide +kernel) rfl rfl (Nat.le_of_ble_eq_true rfl) dX3_run_15 (fun H locs hP hD hS => ?_)
  have hP : va_P D vwCl (flat [WX3 cy h0 a0 s0_3, WX2 cy (a0 0) a1 r1, WX0 cy h_p1 a2 s2, WX5 cy h_p2 a3 s3]) H := by rw [es]; exact hP
  have hD : va_D A (flat [WX3 cy h0 a0 s0_3, WX2 cy (a0 0) a1 r1, WX0 cy h_p1 a2 s2, WX5 cy h_p2 a3 s3]) := by rw [es]; exact hD
  clear es
  refine lv_aload_n hx hb dX3_run_18 rfl (lv_at hl 0 rfl) ?_
  refine lv_iconst (v := 0) hx hb dX3_run_19 (by decide) ?_
  obtain ⟨s0_4, es, h⟩ := lt_elim h
  refine va_put (D := D) (ci := 3) (v := .int (0 : Int32)) (ty := .int) (C := RX3) (T := TX3) (N := 7) hx hb hts hinX3 tyX3 tyX3_ok nmX3 hown hK hP hD hS 0 rfl rfl 4 (by decide) (hts (.fieldLink RX3 29 "KneeBench$Life" "newDays" "I") (List.mem_of_getElem? (i := 4) rfl)) (fun _ h9 => h9) rfl (by decide +kernel) rfl rfl (Nat.le_of_ble_eq_true rfl) dX3_run_20 (fun H locs hP hD hS => ?_)
  have hP : va_P D vwCl (flat [WX3 cy h0 a0 s0_4, WX2 cy (a0 0) a1 r1, WX0 cy h_p1 a2 s2, WX5 cy h_p2 a3 s3]) H := by rw [es]; exact hP
  have hD : va_D A (flat [WX3 cy h0 a0 s0_4, WX2 cy (a0 0) a1 r1, WX0 cy h_p1 a2 s2, WX5 cy h_p2 a3 s3]) := by rw [es]; exact hD
  clear es
  refine lv_aload_n hx hb dX3_run_23 rfl (lv_at hl 0 rfl) ?_
  refine lv_iconst (v := 0) hx hb dX3_run_24 (by decide) ?_
  obtain ⟨s0_5, es, h⟩ := lt_elim h
  refine va_put (D := D) (ci := 3) (v := .int (0 : Int32)) (ty := .int) (C := RX3) (T := TX3) (N := 7) hx hb hts hinX3 tyX3 tyX3_ok nmX3 hown hK hP hD hS 0 rfl rfl 5 (by decide) (hts (.fieldLink RX3 32 "KneeBench$Life" "wetDays" "I") (List.mem_of_getElem? (i := 5) rfl)) (fun _ h9 => h9) rfl (by decide +kernel) rfl rfl (Nat.le_of_ble_eq_true rfl) dX3_run_25 (fun H locs hP hD hS => ?_)
  have hP : va_P D vwCl (flat [WX3 cy h0 a0 s0_5, WX2 cy (a0 0) a1 r1, WX0 cy h_p1 a2 s2, WX5 cy h_p2 a3 s3]) H := by rw [es]; exact hP
  have hD : va_D A (flat [WX3 cy h0 a0 s0_5, WX2 cy (a0 0) a1 r1, WX0 cy h_p1 a2 s2, WX5 cy h_p2 a3 s3]) := by rw [es]; exact hD
  clear es
  refine lv_aload_n hx hb dX3_run_28 rfl (lv_at hl 0 rfl) ?_
  refine lv_iconst (v := 0) hx hb dX3_run_29 (by decide) ?_
  obtain ⟨s0_6, es, h⟩ := lt_elim h
  refine va_put (D := D) (ci := 3) (v := .int (0 : Int32)) (ty := .boolean) (C := RX3) (T := TX3) (N := 7) hx hb hts hinX3 tyX3 tyX3_ok nmX3 hown hK hP hD hS 0 rfl rfl 6 (by decide) (hts (.fieldLink RX3 35 "KneeBench$Life" "isCut" "Z") (List.mem_of_getElem? (i := 6) rfl)) (fun _ h9 => h9) rfl (by decide +kernel) (isb_nar (show isb (0 : Int32) = true by decide)) (isb_fit (show isb (0 : Int32) = true by decide)) (Nat.le_of_ble_eq_true rfl) dX3_run_30 (fun H locs hP hD hS => ?_)
  have hP : va_P D vwCl (flat [WX3 cy h0 a0 s0_6, WX2 cy (a0 0) a1 r1, WX0 cy h_p1 a2 s2, WX5 cy h_p2 a3 s3]) H := by rw [es]; exact hP
  have hD : va_D A (flat [WX3 cy h0 a0 s0_6, WX2 cy (a0 0) a1 r1, WX0 cy h_p1 a2 s2, WX5 cy h_p2 a3 s3]) := by rw [es]; exact hD
  clear es
  refine lv_iconst (v := 0) hx hb dX3_run_33 (by decide) ?_
  refine lv_istore (lv' := [(4, .int (0 : Int32)), (0, .ref h0), (1, .ref h_p1), (2, .ref h_p2), (3, .int p3)]) hx hb dX3_run_34 hl (by decide) rfl (fun ls hl => ?_)
  refine lv_iconst (v := 0) hx hb dX3_run_36 (by decide) ?_
  refine lv_istore (lv' := [(5, .int (0 : Int32)), (4, .int (0 : Int32)), (0, .ref h0), (1, .ref h_p1), (2, .ref h_p2), (3, .int p3)]) hx hb dX3_run_37 hl (by decide) rfl (fun ls hl => ?_)
  have L39 : ∀ (n : Nat) (q39 : Int32 × Int32 × Rc × Rc × Rc) (o : Rc × Rc × Rc), loopO (fX3_run_L39 s3) n q39 = some o → ∀ (H : Heap) (locs : List Loc) (ls : Array Slot), lv_has ls 7 [(0, .ref h0), (1, .ref h_p1), (2, .ref h_p2), (4, .int q39.1), (5, .int q39.2.1)] → va_P D vwCl (flat [WX3 cy h0 a0 q39.2.2.1, WX2 cy (a0 0) a1 q39.2.2.2.1, WX0 cy h_p1 a2 q39.2.2.2.2, WX5 cy h_p2 a3 s3]) H → va_D A (flat [WX3 cy h0 a0 q39.2.2.1, WX2 cy (a0 0) a1 q39.2.2.2.1, WX0 cy h_p1 a2 q39.2.2.2.2, WX5 cy h_p2 a3 s3]) → va_S A s.heap H locs → ∀ (kk134 : ∀ (H : Heap) (locs : List Loc) (ls : Array Slot), lv_has ls 7 [] → va_P D vwCl (flat [WX3 cy h0 a0 o.1, WX2 cy (a0 0) a1 o.2.1, WX0 cy h_p1 a2 o.2.2, WX5 cy h_p2 a3 s3]) H → va_D A (flat [WX3 cy h0 a0 o.1, WX2 cy (a0 0) a1 o.2.1, WX0 cy h_p1 a2 o.2.2, WX5 cy h_p2 a3 s3]) → va_S A s.heap H locs → W p l e rmX3_run s m args below meth c H locs 0 0 QQ (F0 m 134 ls [])), W p l e rmX3_run s m args below meth c H locs 0 0 QQ (F0 m 39 ls []) := by
    intro n
    induction n with
    | zero => intro q39 o h; exact absurd h (by rw [loopO_zero]; intro z; cases z)
    | succ n ih =>
      intro q39 o h H locs ls hl hP hD hS kk134
      obtain ⟨w, h, hgo, hst⟩ := loopO_elim h
      unfold fX3_run_L39 at h
      have J104 : ∀ (y104_6 : Int32) (H : Heap) (locs : List Loc) (ls : Array Slot), lv_has ls 7 [(0, .ref h0), (1, .ref h_p1), (2, .ref h_p2), (4, .int q39.1), (5, .int q39.2.1), (6, .int y104_6)] → va_P D vwCl (flat [WX3 cy h0 a0 q39.2.2.1, WX2 cy (a0 0) a1 q39.2.2.2.1, WX0 cy h_p1 a2 q39.2.2.2.2, WX5 cy h_p2 a3 s3]) H → va_D A (flat [WX3 cy h0 a0 q39.2.2.1, WX2 cy (a0 0) a1 q39.2.2.2.1, WX0 cy h_p1 a2 q39.2.2.2.2, WX5 cy h_p2 a3 s3]) → va_S A s.heap H locs → fX3_run_J104 s3 q39 y104_6 = some w → W p l e rmX3_run s m args below meth c H locs 0 0 QQ (F0 m 104 ls []) := by
        intro y104_6 H locs ls hl hP hD hS h
        unfold fX3_run_J104 at h
        refine lv_aload_n hx hb dX3_run_104 rfl (lv_at hl 0 rfl) ?_
        refine lv_dup hx hb dX3_run_105 rfl ?_
        refine va_get (D := D) (ci := 3) (v := .int (gi q39.2.2.1 2)) (C := RX3) (T := TX3) (N := 7) hx hb hts hinX3 hown hK hP 0 rfl rfl 2 (by decide) (hts (.fieldLink RX3 22 "KneeBench$Life" "steps" "I") (List.mem_of_getElem? (i := 2) rfl)) (fun _ h9 => h9) rfl dX3_run_106 ?_
        refine lv_iload hx hb dX3_run_109 (lv_at hl 5 rfl) ?_
        refine ca_i (w' := [WX3 cy h0 a0 q39.2.2.1, WX2 cy (a0 0) a1 q39.2.2.2.1, WX0 cy h_p1 a2 q39.2.2.2.2, WX5 cy h_p2 a3 s3]) (rn_SN (As := [.int y104_6]) (rest := [.int (gi q39.2.2.1 2), .ref h0]) ⟨hx, hb, hml, hown, hts⟩ (kX10_bit l D cy y104_6 _ rfl H.size) ⟨va_cnB 1 hts gX3_run_X10_bit_n52 rfl rfl rfl (NW.met hN 15 rfl) (hts (.initialized RX10) (List.mem_of_getElem? (i := 15) rfl)) (by decide +kernel) ⟨Nat.le_of_ble_eq_true rfl, Nat.le_of_ble_eq_true rfl⟩, hts (.static yX10_bit) (List.mem_of_getElem? (i := 14) rfl), trivial⟩ hK hN hP hD [] rfl rfl rfl hl.1 rfl (Nat.le_of_ble_eq_true rfl) dX3_run_111 ⟨Nat.le_refl 0, Nat.le_refl 0⟩) hP hD hS hA [] ⟨rfl, rfl, rfl, rfl⟩ (fun H locs hP hD hS => ?_)
        refine lv_iadd hx hb dX3_run_114 ?_
        obtain ⟨s0_7, es, h⟩ := lt_elim h
        refine va_put (D := D) (ci := 3) (v := .int ((gi q39.2.2.1 2) + (fX10_bit y104_6))) (ty := .int) (C := RX3) (T := TX3) (N := 7) hx hb hts hinX3 tyX3 tyX3_ok nmX3 hown hK hP hD hS 0 rfl rfl 2 (by decide) (hts (.fieldLink RX3 22 "KneeBench$Life" "steps" "I") (List.mem_of_getElem? (i := 2) rfl)) (fun _ h9 => h9) rfl (by decide +kernel) rfl rfl (Nat.le_of_ble_eq_true rfl) dX3_run_115 (fun H locs hP hD hS => ?_)
        have hP : va_P D vwCl (flat [WX3 cy h0 a0 s0_7, WX2 cy (a0 0) a1 q39.2.2.2.1, WX0 cy h_p1 a2 q39.2.2.2.2, WX5 cy h_p2 a3 s3]) H := by rw [es]; exact hP
        have hD : va_D A (flat [WX3 cy h0 a0 s0_7, WX2 cy (a0 0) a1 q39.2.2.2.1, WX0 cy h_p1 a2 q39.2.2.2.2, WX5 cy h_p2 a3 s3]) := by rw [es]; exact hD
        clear es
        refine lv_aload_n hx hb dX3_run_118 rfl (lv_at hl 0 rfl) ?_
        refine lv_aload_n hx hb dX3_run_119 rfl (lv_at hl 1 rfl) ?_
        refine lv_aload_n hx hb dX3_run_120 rfl (lv_at hl 2 rfl) ?_
        refine lv_iload hx hb dX3_run_121 (lv_at hl 3 rfl) ?_
        obtain ⟨r8, hr8, h⟩ := bd_elim h
        refine ca_i (w' := [WX3 cy h0 a0 r8.2.1, WX2 cy (a0 0) a1 r8.2.2.1, WX0 cy h_p1 a2 r8.2.2.2, WX5 cy h_p2 a3 s3]) (rn_V (As := [.ref h_p1, .ref h_p2, .int q39.1]) (rest := []) ⟨hx, hb, hml, hown, hts⟩ (kX3_follow l D cy h0 h_p1 h_p2 a0 a1 a2 a3 s0_7 q39.2.2.2.1 q39.2.2.2.2 s3 q39.1 r8 hr8 H.size) (cwV 3 hts gX3_run_X3_follow rfl rfl rfl (by decide +kernel) ⟨Nat.le_of_ble_eq_true rfl, Nat.le_of_ble_eq_true rfl⟩) hK hN hP hD [0, 1, 2, 3] rfl rfl (ci := 3) (q0 := 0) rfl rfl rfl rfl hl.1 rfl (Nat.le_of_ble_eq_true rfl) dX3_run_123 ⟨Nat.le_refl 0, Nat.le_refl 0⟩) hP hD hS hA [0, 1, 2, 3] ⟨rfl, rfl, rfl, rfl⟩ (fun H locs hP hD hS => ?_)
        refine lv_istore (lv' := [(4, .int r8.1), (0, .ref h0), (1, .ref h_p1), (2, .ref h_p2), (5, .int q39.2.1), (6, .int y104_6)]) hx hb dX3_run_126 hl (by decide) rfl (fun ls hl => ?_)
        refine lv_iinc (v := (q39.2.1 + (1 : Int32))) (lv' := [(5, .int (q39.2.1 + (1 : Int32))), (4, .int r8.1), (0, .ref h0), (1, .ref h_p1), (2, .ref h_p2), (6, .int y104_6)]) hx hb dX3_run_128 hl (k := 4) rfl rfl (by decide) rfl (fun ls hl => ?_)
        refine lv_goto (tgt := 39) hx hb dX3_run_131 (by decide) ?_
        exact ih _ o (hgo _ (Option.some.inj h).symm) H locs ls (lv_sub hl [2, 3, 4, 1, 0] rfl) hP hD hS kk134
      have J79 : ∀ (z79_0 : Int32) (H : Heap) (locs : List Loc) (ls : Array Slot), lv_has ls 7 [(0, .ref h0), (1, .ref h_p1), (2, .ref h_p2), (4, .int q39.1), (5, .int q39.2.1)] → va_P D vwCl (flat [WX3 cy h0 a0 q39.2.2.1, WX2 cy (a0 0) a1 q39.2.2.2.1, WX0 cy h_p1 a2 q39.2.2.2.2, WX5 cy h_p2 a3 s3]) H → va_D A (flat [WX3 cy h0 a0 q39.2.2.1, WX2 cy (a0 0) a1 q39.2.2.2.1, WX0 cy h_p1 a2 q39.2.2.2.2, WX5 cy h_p2 a3 s3]) → va_S A s.heap H locs → fX3_run_J79 s3 q39 z79_0 = some w → W p l e rmX3_run s m args below meth c H locs 0 0 QQ (F0 m 79 ls [.int z79_0]) := by
        intro z79_0 H locs ls hl hP hD hS h
        unfold fX3_run_J79 at h
        refine lv_istore (lv' := [(6, .int z79_0), (0, .ref h0), (1, .ref h_p1), (2, .ref h_p2), (4, .int q39.1), (5, .int q39.2.1)]) hx hb dX3_run_79 hl (by decide) rfl (fun ls hl => ?_)
        refine lv_iload hx hb dX3_run_81 (lv_at hl 0 rfl) ?_
        refine lv_if_eq (tgt := 104) hx hb dX3_run_83 (by decide) (fun c9 => ?_) (fun c9 => ?_)
        · replace h := (if_pos c9).symm.trans h
          exact J104 z79_0 H locs ls (lv_sub hl [1, 2, 3, 4, 5, 0] rfl) hP hD hS h
        · replace h := (if_neg c9).symm.trans h
          refine lv_aload_n hx hb dX3_run_86 rfl (lv_at hl 1 rfl) ?_
          refine va_get (D := D) (ci := 3) (v := .int (gi q39.2.2.1 2)) (C := RX3) (T := TX3) (N := 7) hx hb hts hinX3 hown hK hP 0 rfl rfl 2 (by decide) (hts (.fieldLink RX3 22 "KneeBench$Life" "steps" "I") (List.mem_of_getElem? (i := 2) rfl)) (fun _ h9 => h9) rfl dX3_run_87 ?_
          refine lv_sipush (v := 200) hx hb dX3_run_90 (by decide) ?_
          refine lv_icmp_ne (tgt := 104) hx hb dX3_run_93 (by decide) (fun c10 => ?_) (fun c10 => ?_)
          · replace h := (if_neg c10).symm.trans h
            exact J104 z79_0 H locs ls (lv_sub hl [1, 2, 3, 4, 5, 0] rfl) hP hD hS h
          · replace h := (if_pos c10).symm.trans h
            refine lv_aload_n hx hb dX3_run_96 rfl (lv_at hl 1 rfl) ?_
            refine lv_iconst (v := 1) hx hb dX3_run_97 (by decide) ?_
            obtain ⟨s0_11, es, h⟩ := lt_elim h
            refine va_put (D := D) (ci := 3) (v := .int (1 : Int32)) (ty := .boolean) (C := RX3) (T := TX3) (N := 7) hx hb hts hinX3 tyX3 tyX3_ok nmX3 hown hK hP hD hS 0 rfl rfl 6 (by decide) (hts (.fieldLink RX3 35 "KneeBench$Life" "isCut" "Z") (List.mem_of_getElem? (i := 6) rfl)) (fun _ h9 => h9) rfl (by decide +kernel) (isb_nar (show isb (1 : Int32) = true by decide)) (isb_fit (show isb (1 : Int32) = true by decide)) (Nat.le_of_ble_eq_true rfl) dX3_run_98 (fun H locs hP hD hS => ?_)
            have hP : va_P D vwCl (flat [WX3 cy h0 a0 s0_11, WX2 cy (a0 0) a1 q39.2.2.2.1, WX0 cy h_p1 a2 q39.2.2.2.2, WX5 cy h_p2 a3 s3]) H := by rw [es]; exact hP
            have hD : va_D A (flat [WX3 cy h0 a0 s0_11, WX2 cy (a0 0) a1 q39.2.2.2.1, WX0 cy h_p1 a2 q39.2.2.2.2, WX5 cy h_p2 a3 s3]) := by rw [es]; exact hD
            clear es
            refine lv_goto (tgt := 128) hx hb dX3_run_101 (by decide) ?_
            refine lv_iinc (v := (q39.2.1 + (1 : Int32))) (lv' := [(5, .int (q39.2.1 + (1 : Int32))), (6, .int z79_0), (0, .ref h0), (1, .ref h_p1), (2, .ref h_p2), (4, .int q39.1)]) hx hb dX3_run_128 hl (k := 5) rfl rfl (by decide) rfl (fun ls hl => ?_)
            refine lv_goto (tgt := 39) hx hb dX3_run_131 (by decide) ?_
            exact ih _ o (hgo _ (Option.some.inj h).symm) H locs ls (lv_sub hl [2, 3, 4, 5, 0] rfl) hP hD hS kk134
      refine lv_iload hx hb dX3_run_39 (lv_at hl 4 rfl) ?_
      refine lv_ldc (v := 1000000) hx hb hown (hts (.constant RX3 43 (1000000)) (List.mem_of_getElem? (i := 7) rfl)) dX3_run_41 ?_
      refine lv_icmp_ge (tgt := 134) hx hb dX3_run_43 (by decide) (fun c12 => ?_) (fun c12 => ?_)
      · replace h := (if_pos c12).symm.trans h
        have eo := hst _ (Option.some.inj h).symm
        subst eo
        exact kk134 H locs ls (lv_sub hl [] rfl) hP hD hS
      · replace h := (if_neg c12).symm.trans h
        refine lv_iload hx hb dX3_run_46 (lv_at hl 3 rfl) ?_
        refine lv_aload_n hx hb dX3_run_48 rfl (lv_at hl 2 rfl) ?_
        refine va_getN (D := D) (ci := 5) (v := .int (gi s3 5)) (C := RX5) (T := TX5) (N := 8) hx hb hts hinX5 hown hK hP 12 rfl rfl 5 (by decide) (NW.fld hN 35 rfl _) (fun _ h9 => h9) rfl dX3_run_49 ?_
        refine lv_icmp_ge (tgt := 134) hx hb dX3_run_52 (by decide) (fun c13 => ?_) (fun c13 => ?_)
        · replace h := (if_pos c13).symm.trans h
          have eo := hst _ (Option.some.inj h).symm
          subst eo
          exact kk134 H locs ls (lv_sub hl [] rfl) hP hD hS
        · replace h := (if_neg c13).symm.trans h
          refine lv_aload_n hx hb dX3_run_55 rfl (lv_at hl 0 rfl) ?_
          refine va_get (D := D) (ci := 3) (v := .int (gi q39.2.2.1 6)) (C := RX3) (T := TX3) (N := 7) hx hb hts hinX3 hown hK hP 0 rfl rfl 6 (by decide) (hts (.fieldLink RX3 35 "KneeBench$Life" "isCut" "Z") (List.mem_of_getElem? (i := 6) rfl)) (fun _ h9 => h9) rfl dX3_run_56 ?_
          refine lv_if_ne (tgt := 134) hx hb dX3_run_59 (by decide) (fun c14 => ?_) (fun c14 => ?_)
          · replace h := (if_neg c14).symm.trans h
            have eo := hst _ (Option.some.inj h).symm
            subst eo
            exact kk134 H locs ls (lv_sub hl [] rfl) hP hD hS
          · replace h := (if_pos c14).symm.trans h
            refine lv_aload_n hx hb dX3_run_62 rfl (lv_at hl 2 rfl) ?_
            refine va_getN (D := D) (ci := 5) (v := .ref (a3 0)) (C := RX5) (T := TX5) (N := 8) hx hb hts hinX5 hown hK hP 12 rfl rfl 0 (by decide) (NW.fld hN 25 rfl _) (fun _ h9 => h9) rfl dX3_run_63 ?_
            refine lv_iload hx hb dX3_run_66 (lv_at hl 3 rfl) ?_
            obtain ⟨g15, h⟩ := gd_elim h
            refine va_iald hx hb hK hP 13 1 rfl rfl (inb_in g15) dX3_run_68 ?_
            refine lv_bipush (v := 28) hx hb dX3_run_69 (by decide) ?_
            refine lv_icmp_eq (tgt := 78) hx hb dX3_run_71 (by decide) (fun c16 => ?_) (fun c16 => ?_)
            · replace h := (if_pos c16).symm.trans h
              refine lv_iconst (v := 0) hx hb dX3_run_78 (by decide) ?_
              exact J79 (0 : Int32) H locs ls (lv_sub hl [0, 1, 2, 3, 4] rfl) hP hD hS h
            · replace h := (if_neg c16).symm.trans h
              refine lv_iconst (v := 1) hx hb dX3_run_74 (by decide) ?_
              refine lv_goto (tgt := 79) hx hb dX3_run_75 (by decide) ?_
              exact J79 (1 : Int32) H locs ls (lv_sub hl [0, 1, 2, 3, 4] rfl) hP hD hS h
  obtain ⟨o39, ho39, h⟩ := bd_elim h
  obtain ⟨n39, hn39⟩ := loopF_some ho39
  refine L39 n39 _ o39 hn39 H locs ls (lv_sub hl [2, 3, 4, 1, 0] rfl) hP hD hS (fun H locs ls hl hP hD hS => ?_)
  exact hret 134 H locs ls (o39.1, o39.2.1, o39.2.2) (Option.some.inj h) hP hD hS dX3_run_134
theorem dX5_copyFrom_0 : decode cX5_copyFrom 0 = .ok (.aload_n 1, 1) := by decide +kernel
theorem dX5_copyFrom_1 : decode cX5_copyFrom 1 = .ok (.getfield 9, 3) := by decide +kernel
theorem dX5_copyFrom_4 : decode cX5_copyFrom 4 = .ok (.iconst 0, 1) := by decide +kernel
theorem dX5_copyFrom_5 : decode cX5_copyFrom 5 = .ok (.aload_n 0, 1) := by decide +kernel
theorem dX5_copyFrom_6 : decode cX5_copyFrom 6 = .ok (.getfield 9, 3) := by decide +kernel
theorem dX5_copyFrom_9 : decode cX5_copyFrom 9 = .ok (.iconst 0, 1) := by decide +kernel
theorem dX5_copyFrom_10 : decode cX5_copyFrom 10 = .ok (.bipush 60, 2) := by decide +kernel
theorem dX5_copyFrom_12 : decode cX5_copyFrom 12 = .ok (.invokestatic 38, 3) := by decide +kernel
theorem dX5_copyFrom_15 : decode cX5_copyFrom 15 = .ok (.aload_n 1, 1) := by decide +kernel
theorem dX5_copyFrom_16 : decode cX5_copyFrom 16 = .ok (.getfield 15, 3) := by decide +kernel
theorem dX5_copyFrom_19 : decode cX5_copyFrom 19 = .ok (.iconst 0, 1) := by decide +kernel
theorem dX5_copyFrom_20 : decode cX5_copyFrom 20 = .ok (.aload_n 0, 1) := by decide +kernel
theorem dX5_copyFrom_21 : decode cX5_copyFrom 21 = .ok (.getfield 15, 3) := by decide +kernel
theorem dX5_copyFrom_24 : decode cX5_copyFrom 24 = .ok (.iconst 0, 1) := by decide +kernel
theorem dX5_copyFrom_25 : decode cX5_copyFrom 25 = .ok (.bipush 60, 2) := by decide +kernel
theorem dX5_copyFrom_27 : decode cX5_copyFrom 27 = .ok (.invokestatic 38, 3) := by decide +kernel
theorem dX5_copyFrom_30 : decode cX5_copyFrom 30 = .ok (.aload_n 1, 1) := by decide +kernel
theorem dX5_copyFrom_31 : decode cX5_copyFrom 31 = .ok (.getfield 18, 3) := by decide +kernel
theorem dX5_copyFrom_34 : decode cX5_copyFrom 34 = .ok (.iconst 0, 1) := by decide +kernel
theorem dX5_copyFrom_35 : decode cX5_copyFrom 35 = .ok (.aload_n 0, 1) := by decide +kernel
theorem dX5_copyFrom_36 : decode cX5_copyFrom 36 = .ok (.getfield 18, 3) := by decide +kernel
theorem dX5_copyFrom_39 : decode cX5_copyFrom 39 = .ok (.iconst 0, 1) := by decide +kernel
theorem dX5_copyFrom_40 : decode cX5_copyFrom 40 = .ok (.bipush 60, 2) := by decide +kernel
theorem dX5_copyFrom_42 : decode cX5_copyFrom 42 = .ok (.invokestatic 38, 3) := by decide +kernel
theorem dX5_copyFrom_45 : decode cX5_copyFrom 45 = .ok (.aload_n 1, 1) := by decide +kernel
theorem dX5_copyFrom_46 : decode cX5_copyFrom 46 = .ok (.getfield 21, 3) := by decide +kernel
theorem dX5_copyFrom_49 : decode cX5_copyFrom 49 = .ok (.iconst 0, 1) := by decide +kernel
theorem dX5_copyFrom_50 : decode cX5_copyFrom 50 = .ok (.aload_n 0, 1) := by decide +kernel
theorem dX5_copyFrom_51 : decode cX5_copyFrom 51 = .ok (.getfield 21, 3) := by decide +kernel
theorem dX5_copyFrom_54 : decode cX5_copyFrom 54 = .ok (.iconst 0, 1) := by decide +kernel
theorem dX5_copyFrom_55 : decode cX5_copyFrom 55 = .ok (.bipush 60, 2) := by decide +kernel
theorem dX5_copyFrom_57 : decode cX5_copyFrom 57 = .ok (.invokestatic 38, 3) := by decide +kernel
theorem dX5_copyFrom_60 : decode cX5_copyFrom 60 = .ok (.aload_n 1, 1) := by decide +kernel
theorem dX5_copyFrom_61 : decode cX5_copyFrom 61 = .ok (.getfield 24, 3) := by decide +kernel
theorem dX5_copyFrom_64 : decode cX5_copyFrom 64 = .ok (.iconst 0, 1) := by decide +kernel
theorem dX5_copyFrom_65 : decode cX5_copyFrom 65 = .ok (.aload_n 0, 1) := by decide +kernel
theorem dX5_copyFrom_66 : decode cX5_copyFrom 66 = .ok (.getfield 24, 3) := by decide +kernel
theorem dX5_copyFrom_69 : decode cX5_copyFrom 69 = .ok (.iconst 0, 1) := by decide +kernel
theorem dX5_copyFrom_70 : decode cX5_copyFrom 70 = .ok (.bipush 60, 2) := by decide +kernel
theorem dX5_copyFrom_72 : decode cX5_copyFrom 72 = .ok (.invokestatic 38, 3) := by decide +kernel
theorem dX5_copyFrom_75 : decode cX5_copyFrom 75 = .ok (.aload_n 0, 1) := by decide +kernel
theorem dX5_copyFrom_76 : decode cX5_copyFrom 76 = .ok (.aload_n 1, 1) := by decide +kernel
theorem dX5_copyFrom_77 : decode cX5_copyFrom 77 = .ok (.getfield 27, 3) := by decide +kernel
theorem dX5_copyFrom_80 : decode cX5_copyFrom 80 = .ok (.putfield 27, 3) := by decide +kernel
theorem dX5_copyFrom_83 : decode cX5_copyFrom 83 = .ok (.aload_n 0, 1) := by decide +kernel
theorem dX5_copyFrom_84 : decode cX5_copyFrom 84 = .ok (.aload_n 1, 1) := by decide +kernel
theorem dX5_copyFrom_85 : decode cX5_copyFrom 85 = .ok (.getfield 31, 3) := by decide +kernel
theorem dX5_copyFrom_88 : decode cX5_copyFrom 88 = .ok (.putfield 31, 3) := by decide +kernel
theorem dX5_copyFrom_91 : decode cX5_copyFrom 91 = .ok (.aload_n 0, 1) := by decide +kernel
theorem dX5_copyFrom_92 : decode cX5_copyFrom 92 = .ok (.aload_n 1, 1) := by decide +kernel
theorem dX5_copyFrom_93 : decode cX5_copyFrom 93 = .ok (.getfield 34, 3) := by decide +kernel
theorem dX5_copyFrom_96 : decode cX5_copyFrom 96 = .ok (.putfield 34, 3) := by decide +kernel
theorem dX5_copyFrom_99 : decode cX5_copyFrom 99 = .ok (.return_, 1) := by decide +kernel
abbrev rmX5_copyFrom : Room := { frames := 1, cells := 0, slots := 0, locals := 40 }
set_option maxHeartbeats 4000000 in
set_option maxRecDepth 100000 in
theorem kX5_copyFrom (l : Launch) (D : va_G) (cy : Nat → ClassId) (h0 : Nat) (h_p1 : Nat) (a0 : Nat → Nat) (a1 : Nat → Nat) (s0 : Rc) (s1 : Rc) (res : Rc) (h : fX5_copyFrom s0 s1 = some res) : CV l D cy yX5_copyFrom wsX5_copyFrom rmX5_copyFrom [.ref h0, .ref h_p1] (flat [WX5 cy h0 a0 s0, WX5 cy h_p1 a1 s1]) (flat [WX5 cy h0 a0 res, WX5 cy h_p1 a1 s1]) := by
  refine CV.of (cc := cX5_copyFrom) (maxL := 2) (by decide) rfl (Nat.le_of_ble_eq_true rfl) ?_
  intro p e s m args below meth c A QQ ls E hr
  obtain ⟨hx, hb, hml, hown, hts, hK, hN, hP, hD, hA, hl⟩ := E
  have hret : ∀ (pc : Nat) (H : Heap) (locs : List Loc) (ls : Array Slot) (u : Rc), u = res → va_P D vwCl (flat [WX5 cy h0 a0 u, WX5 cy h_p1 a1 s1]) H → va_D A (flat [WX5 cy h0 a0 u, WX5 cy h_p1 a1 s1]) → va_S A s.heap H locs → decode cX5_copyFrom pc = .ok (.return_, 1) → W p l e rmX5_copyFrom s m args below meth c H locs 0 0 QQ (F0 m pc ls []) := by
    intro pc H locs ls u hu hP hD hS hd; subst hu; exact hr pc H locs ls hP hD hS hd
  clear hr
  have hl : lv_has ls 2 [(0, .ref h0), (1, .ref h_p1)] := hl
  have hinX5 : ∀ w ∈ wsX50, w ∈ wsX5_copyFrom := fun _ h => List.mem_cons_of_mem _ (List.mem_append_right _ h)
  unfold fX5_copyFrom at h
  suffices key : ∀ (H : Heap) (locs : List Loc), va_P D vwCl (flat [WX5 cy h0 a0 s0, WX5 cy h_p1 a1 s1]) H → va_S A s.heap H locs → W p l e rmX5_copyFrom s m args below meth c H locs 0 0 QQ (F0 m 0 ls []) from key _ _ hP va_S.rf
  clear hP
  intro H locs hP hS
  refine lv_aload_n hx hb dX5_copyFrom_0 rfl (lv_at hl 1 rfl) ?_
  refine va_get (D := D) (ci := 5) (v := .ref (a1 0)) (C := RX5) (T := TX5) (N := 8) hx hb hts hinX5 hown hK hP 6 rfl rfl 0 (by decide) (hts (.fieldLink RX5 9 "KneeBench$Season" "kinds" "[I") (List.mem_of_getElem? (i := 1) rfl)) (fun _ h9 => h9) rfl dX5_copyFrom_1 ?_
  refine lv_iconst (v := 0) hx hb dX5_copyFrom_4 (by decide) ?_
  refine lv_aload_n hx hb dX5_copyFrom_5 rfl (lv_at hl 0 rfl) ?_
  refine va_get (D := D) (ci := 5) (v := .ref (a0 0)) (C := RX5) (T := TX5) (N := 8) hx hb hts hinX5 hown hK hP 0 rfl rfl 0 (by decide) (hts (.fieldLink RX5 9 "KneeBench$Season" "kinds" "[I") (List.mem_of_getElem? (i := 1) rfl)) (fun _ h9 => h9) rfl dX5_copyFrom_6 ?_
  refine lv_iconst (v := 0) hx hb dX5_copyFrom_9 (by decide) ?_
  refine lv_bipush (v := 60) hx hb dX5_copyFrom_10 (by decide) ?_
  obtain ⟨s0_1, es, h⟩ := lt_elim h
  refine va_copyi hx hb (hml.trans hl.1.symm) hown (hts (.methodLink RX5 38 arraycopyName) (List.mem_of_getElem? (i := 2) rfl)) (hts (.native arraycopyName) (List.mem_of_getElem? (i := 3) rfl)) (hts (.static arraycopyName) (List.mem_of_getElem? (i := 4) rfl)) (hts (.initialized "java/lang/System") (List.mem_of_getElem? (i := 5) rfl)) hK hP hD hS 7 1 1 1 rfl rfl rfl rfl rfl (cpb_1 (show cpb (0 : Int32) (60 : Int32) 60 = true by decide)) (cpb_1 (show cpb (0 : Int32) (60 : Int32) 60 = true by decide)) (cpb_2 (show cpb (0 : Int32) (60 : Int32) 60 = true by decide)) (cpb_3 (show cpb (0 : Int32) (60 : Int32) 60 = true by decide)) (cpb_3 (show cpb (0 : Int32) (60 : Int32) 60 = true by decide)) (fun _ _ => rfl) (Nat.le_of_ble_eq_true rfl) (Nat.le_of_ble_eq_true rfl) dX5_copyFrom_12 (fun H locs hP hD hS => ?_)
  have hP : va_P D vwCl (flat [WX5 cy h0 a0 s0_1, WX5 cy h_p1 a1 s1]) H := by rw [es]; exact hP
  have hD : va_D A (flat [WX5 cy h0 a0 s0_1, WX5 cy h_p1 a1 s1]) := by rw [es]; exact hD
  clear es
  refine lv_aload_n hx hb dX5_copyFrom_15 rfl (lv_at hl 1 rfl) ?_
  refine va_get (D := D) (ci := 5) (v := .ref (a1 1)) (C := RX5) (T := TX5) (N := 8) hx hb hts hinX5 hown hK hP 6 rfl rfl 1 (by decide) (hts (.fieldLink RX5 15 "KneeBench$Season" "farmers" "[I") (List.mem_of_getElem? (i := 6) rfl)) (fun _ h9 => h9) rfl dX5_copyFrom_16 ?_
  refine lv_iconst (v := 0) hx hb dX5_copyFrom_19 (by decide) ?_
  refine lv_aload_n hx hb dX5_copyFrom_20 rfl (lv_at hl 0 rfl) ?_
  refine va_get (D := D) (ci := 5) (v := .ref (a0 1)) (C := RX5) (T := TX5) (N := 8) hx hb hts hinX5 hown hK hP 0 rfl rfl 1 (by decide) (hts (.fieldLink RX5 15 "KneeBench$Season" "farmers" "[I") (List.mem_of_getElem? (i := 6) rfl)) (fun _ h9 => h9) rfl dX5_copyFrom_21 ?_
  refine lv_iconst (v := 0) hx hb dX5_copyFrom_24 (by decide) ?_
  refine lv_bipush (v := 60) hx hb dX5_copyFrom_25 (by decide) ?_
  obtain ⟨s0_2, es, h⟩ := lt_elim h
  refine va_copyi hx hb (hml.trans hl.1.symm) hown (hts (.methodLink RX5 38 arraycopyName) (List.mem_of_getElem? (i := 2) rfl)) (hts (.native arraycopyName) (List.mem_of_getElem? (i := 3) rfl)) (hts (.static arraycopyName) (List.mem_of_getElem? (i := 4) rfl)) (hts (.initialized "java/lang/System") (List.mem_of_getElem? (i := 5) rfl)) hK hP hD hS 8 2 1 1 rfl rfl rfl rfl rfl (cpb_1 (show cpb (0 : Int32) (60 : Int32) 60 = true by decide)) (cpb_1 (show cpb (0 : Int32) (60 : Int32) 60 = true by decide)) (cpb_2 (show cpb (0 : Int32) (60 : Int32) 60 = true by decide)) (cpb_3 (show cpb (0 : Int32) (60 : Int32) 60 = true by decide)) (cpb_3 (show cpb (0 : Int32) (60 : Int32) 60 = true by decide)) (fun _ _ => rfl) (Nat.le_of_ble_eq_true rfl) (Nat.le_of_ble_eq_true rfl) dX5_copyFrom_27 (fun H locs hP hD hS => ?_)
  have hP : va_P D vwCl (flat [WX5 cy h0 a0 s0_2, WX5 cy h_p1 a1 s1]) H := by rw [es]; exact hP
  have hD : va_D A (flat [WX5 cy h0 a0 s0_2, WX5 cy h_p1 a1 s1]) := by rw [es]; exact hD
  clear es
  refine lv_aload_n hx hb dX5_copyFrom_30 rfl (lv_at hl 1 rfl) ?_
  refine va_get (D := D) (ci := 5) (v := .ref (a1 2)) (C := RX5) (T := TX5) (N := 8) hx hb hts hinX5 hown hK hP 6 rfl rfl 2 (by decide) (hts (.fieldLink RX5 18 "KneeBench$Season" "signs" "[I") (List.mem_of_getElem? (i := 7) rfl)) (fun _ h9 => h9) rfl dX5_copyFrom_31 ?_
  refine lv_iconst (v := 0) hx hb dX5_copyFrom_34 (by decide) ?_
  refine lv_aload_n hx hb dX5_copyFrom_35 rfl (lv_at hl 0 rfl) ?_
  refine va_get (D := D) (ci := 5) (v := .ref (a0 2)) (C := RX5) (T := TX5) (N := 8) hx hb hts hinX5 hown hK hP 0 rfl rfl 2 (by decide) (hts (.fieldLink RX5 18 "KneeBench$Season" "signs" "[I") (List.mem_of_getElem? (i := 7) rfl)) (fun _ h9 => h9) rfl dX5_copyFrom_36 ?_
  refine lv_iconst (v := 0) hx hb dX5_copyFrom_39 (by decide) ?_
  refine lv_bipush (v := 60) hx hb dX5_copyFrom_40 (by decide) ?_
  obtain ⟨s0_3, es, h⟩ := lt_elim h
  refine va_copyi hx hb (hml.trans hl.1.symm) hown (hts (.methodLink RX5 38 arraycopyName) (List.mem_of_getElem? (i := 2) rfl)) (hts (.native arraycopyName) (List.mem_of_getElem? (i := 3) rfl)) (hts (.static arraycopyName) (List.mem_of_getElem? (i := 4) rfl)) (hts (.initialized "java/lang/System") (List.mem_of_getElem? (i := 5) rfl)) hK hP hD hS 9 3 1 1 rfl rfl rfl rfl rfl (cpb_1 (show cpb (0 : Int32) (60 : Int32) 60 = true by decide)) (cpb_1 (show cpb (0 : Int32) (60 : Int32) 60 = true by decide)) (cpb_2 (show cpb (0 : Int32) (60 : Int32) 60 = true by decide)) (cpb_3 (show cpb (0 : Int32) (60 : Int32) 60 = true by decide)) (cpb_3 (show cpb (0 : Int32) (60 : Int32) 60 = true by decide)) (fun _ _ => rfl) (Nat.le_of_ble_eq_true rfl) (Nat.le_of_ble_eq_true rfl) dX5_copyFrom_42 (fun H locs hP hD hS => ?_)
  have hP : va_P D vwCl (flat [WX5 cy h0 a0 s0_3, WX5 cy h_p1 a1 s1]) H := by rw [es]; exact hP
  have hD : va_D A (flat [WX5 cy h0 a0 s0_3, WX5 cy h_p1 a1 s1]) := by rw [es]; exact hD
  clear es
  refine lv_aload_n hx hb dX5_copyFrom_45 rfl (lv_at hl 1 rfl) ?_
  refine va_get (D := D) (ci := 5) (v := .ref (a1 3)) (C := RX5) (T := TX5) (N := 8) hx hb hts hinX5 hown hK hP 6 rfl rfl 3 (by decide) (hts (.fieldLink RX5 21 "KneeBench$Season" "numbers" "[I") (List.mem_of_getElem? (i := 8) rfl)) (fun _ h9 => h9) rfl dX5_copyFrom_46 ?_
  refine lv_iconst (v := 0) hx hb dX5_copyFrom_49 (by decide) ?_
  refine lv_aload_n hx hb dX5_copyFrom_50 rfl (lv_at hl 0 rfl) ?_
  refine va_get (D := D) (ci := 5) (v := .ref (a0 3)) (C := RX5) (T := TX5) (N := 8) hx hb hts hinX5 hown hK hP 0 rfl rfl 3 (by decide) (hts (.fieldLink RX5 21 "KneeBench$Season" "numbers" "[I") (List.mem_of_getElem? (i := 8) rfl)) (fun _ h9 => h9) rfl dX5_copyFrom_51 ?_
  refine lv_iconst (v := 0) hx hb dX5_copyFrom_54 (by decide) ?_
  refine lv_bipush (v := 60) hx hb dX5_copyFrom_55 (by decide) ?_
  obtain ⟨s0_4, es, h⟩ := lt_elim h
  refine va_copyi hx hb (hml.trans hl.1.symm) hown (hts (.methodLink RX5 38 arraycopyName) (List.mem_of_getElem? (i := 2) rfl)) (hts (.native arraycopyName) (List.mem_of_getElem? (i := 3) rfl)) (hts (.static arraycopyName) (List.mem_of_getElem? (i := 4) rfl)) (hts (.initialized "java/lang/System") (List.mem_of_getElem? (i := 5) rfl)) hK hP hD hS 10 4 1 1 rfl rfl rfl rfl rfl (cpb_1 (show cpb (0 : Int32) (60 : Int32) 60 = true by decide)) (cpb_1 (show cpb (0 : Int32) (60 : Int32) 60 = true by decide)) (cpb_2 (show cpb (0 : Int32) (60 : Int32) 60 = true by decide)) (cpb_3 (show cpb (0 : Int32) (60 : Int32) 60 = true by decide)) (cpb_3 (show cpb (0 : Int32) (60 : Int32) 60 = true by decide)) (fun _ _ => rfl) (Nat.le_of_ble_eq_true rfl) (Nat.le_of_ble_eq_true rfl) dX5_copyFrom_57 (fun H locs hP hD hS => ?_)
  have hP : va_P D vwCl (flat [WX5 cy h0 a0 s0_4, WX5 cy h_p1 a1 s1]) H := by rw [es]; exact hP
  have hD : va_D A (flat [WX5 cy h0 a0 s0_4, WX5 cy h_p1 a1 s1]) := by rw [es]; exact hD
  clear es
  refine lv_aload_n hx hb dX5_copyFrom_60 rfl (lv_at hl 1 rfl) ?_
  refine va_get (D := D) (ci := 5) (v := .ref (a1 4)) (C := RX5) (T := TX5) (N := 8) hx hb hts hinX5 hown hK hP 6 rfl rfl 4 (by decide) (hts (.fieldLink RX5 24 "KneeBench$Season" "partners" "[I") (List.mem_of_getElem? (i := 9) rfl)) (fun _ h9 => h9) rfl dX5_copyFrom_61 ?_
  refine lv_iconst (v := 0) hx hb dX5_copyFrom_64 (by decide) ?_
  refine lv_aload_n hx hb dX5_copyFrom_65 rfl (lv_at hl 0 rfl) ?_
  refine va_get (D := D) (ci := 5) (v := .ref (a0 4)) (C := RX5) (T := TX5) (N := 8) hx hb hts hinX5 hown hK hP 0 rfl rfl 4 (by decide) (hts (.fieldLink RX5 24 "KneeBench$Season" "partners" "[I") (List.mem_of_getElem? (i := 9) rfl)) (fun _ h9 => h9) rfl dX5_copyFrom_66 ?_
  refine lv_iconst (v := 0) hx hb dX5_copyFrom_69 (by decide) ?_
  refine lv_bipush (v := 60) hx hb dX5_copyFrom_70 (by decide) ?_
  obtain ⟨s0_5, es, h⟩ := lt_elim h
  refine va_copyi hx hb (hml.trans hl.1.symm) hown (hts (.methodLink RX5 38 arraycopyName) (List.mem_of_getElem? (i := 2) rfl)) (hts (.native arraycopyName) (List.mem_of_getElem? (i := 3) rfl)) (hts (.static arraycopyName) (List.mem_of_getElem? (i := 4) rfl)) (hts (.initialized "java/lang/System") (List.mem_of_getElem? (i := 5) rfl)) hK hP hD hS 11 5 1 1 rfl rfl rfl rfl rfl (cpb_1 (show cpb (0 : Int32) (60 : Int32) 60 = true by decide)) (cpb_1 (show cpb (0 : Int32) (60 : Int32) 60 = true by decide)) (cpb_2 (show cpb (0 : Int32) (60 : Int32) 60 = true by decide)) (cpb_3 (show cpb (0 : Int32) (60 : Int32) 60 = true by decide)) (cpb_3 (show cpb (0 : Int32) (60 : Int32) 60 = true by decide)) (fun _ _ => rfl) (Nat.le_of_ble_eq_true rfl) (Nat.le_of_ble_eq_true rfl) dX5_copyFrom_72 (fun H locs hP hD hS => ?_)
  have hP : va_P D vwCl (flat [WX5 cy h0 a0 s0_5, WX5 cy h_p1 a1 s1]) H := by rw [es]; exact hP
  have hD : va_D A (flat [WX5 cy h0 a0 s0_5, WX5 cy h_p1 a1 s1]) := by rw [es]; exact hD
  clear es
  refine lv_aload_n hx hb dX5_copyFrom_75 rfl (lv_at hl 0 rfl) ?_
  refine lv_aload_n hx hb dX5_copyFrom_76 rfl (lv_at hl 1 rfl) ?_
  refine va_get (D := D) (ci := 5) (v := .int (gi s1 5)) (C := RX5) (T := TX5) (N := 8) hx hb hts hinX5 hown hK hP 6 rfl rfl 5 (by decide) (hts (.fieldLink RX5 27 "KneeBench$Season" "size" "I") (List.mem_of_getElem? (i := 10) rfl)) (fun _ h9 => h9) rfl dX5_copyFrom_77 ?_
  obtain ⟨s0_6, es, h⟩ := lt_elim h
  refine va_put (D := D) (ci := 5) (v := .int (gi s1 5)) (ty := .int) (C := RX5) (T := TX5) (N := 8) hx hb hts hinX5 tyX5 tyX5_ok nmX5 hown hK hP hD hS 0 rfl rfl 5 (by decide) (hts (.fieldLink RX5 27 "KneeBench$Season" "size" "I") (List.mem_of_getElem? (i := 10) rfl)) (fun _ h9 => h9) rfl (by decide +kernel) rfl rfl (Nat.le_of_ble_eq_true rfl) dX5_copyFrom_80 (fun H locs hP hD hS => ?_)
  have hP : va_P D vwCl (flat [WX5 cy h0 a0 s0_6, WX5 cy h_p1 a1 s1]) H := by rw [es]; exact hP
  have hD : va_D A (flat [WX5 cy h0 a0 s0_6, WX5 cy h_p1 a1 s1]) := by rw [es]; exact hD
  clear es
  refine lv_aload_n hx hb dX5_copyFrom_83 rfl (lv_at hl 0 rfl) ?_
  refine lv_aload_n hx hb dX5_copyFrom_84 rfl (lv_at hl 1 rfl) ?_
  refine va_get (D := D) (ci := 5) (v := .int (gi s1 6)) (C := RX5) (T := TX5) (N := 8) hx hb hts hinX5 hown hK hP 6 rfl rfl 6 (by decide) (hts (.fieldLink RX5 31 "KneeBench$Season" "steps" "I") (List.mem_of_getElem? (i := 11) rfl)) (fun _ h9 => h9) rfl dX5_copyFrom_85 ?_
  obtain ⟨s0_7, es, h⟩ := lt_elim h
  refine va_put (D := D) (ci := 5) (v := .int (gi s1 6)) (ty := .int) (C := RX5) (T := TX5) (N := 8) hx hb hts hinX5 tyX5 tyX5_ok nmX5 hown hK hP hD hS 0 rfl rfl 6 (by decide) (hts (.fieldLink RX5 31 "KneeBench$Season" "steps" "I") (List.mem_of_getElem? (i := 11) rfl)) (fun _ h9 => h9) rfl (by decide +kernel) rfl rfl (Nat.le_of_ble_eq_true rfl) dX5_copyFrom_88 (fun H locs hP hD hS => ?_)
  have hP : va_P D vwCl (flat [WX5 cy h0 a0 s0_7, WX5 cy h_p1 a1 s1]) H := by rw [es]; exact hP
  have hD : va_D A (flat [WX5 cy h0 a0 s0_7, WX5 cy h_p1 a1 s1]) := by rw [es]; exact hD
  clear es
  refine lv_aload_n hx hb dX5_copyFrom_91 rfl (lv_at hl 0 rfl) ?_
  refine lv_aload_n hx hb dX5_copyFrom_92 rfl (lv_at hl 1 rfl) ?_
  refine va_get (D := D) (ci := 5) (v := .int (gi s1 7)) (C := RX5) (T := TX5) (N := 8) hx hb hts hinX5 hown hK hP 6 rfl rfl 7 (by decide) (hts (.fieldLink RX5 34 "KneeBench$Season" "isThere" "Z") (List.mem_of_getElem? (i := 12) rfl)) (fun _ h9 => h9) rfl dX5_copyFrom_93 ?_
  obtain ⟨g8, h⟩ := gd_elim h
  obtain ⟨s0_9, es, h⟩ := lt_elim h
  refine va_put (D := D) (ci := 5) (v := .int (gi s1 7)) (ty := .boolean) (C := RX5) (T := TX5) (N := 8) hx hb hts hinX5 tyX5 tyX5_ok nmX5 hown hK hP hD hS 0 rfl rfl 7 (by decide) (hts (.fieldLink RX5 34 "KneeBench$Season" "isThere" "Z") (List.mem_of_getElem? (i := 12) rfl)) (fun _ h9 => h9) rfl (by decide +kernel) (isb_nar g8) (isb_fit g8) (Nat.le_of_ble_eq_true rfl) dX5_copyFrom_96 (fun H locs hP hD hS => ?_)
  have hP : va_P D vwCl (flat [WX5 cy h0 a0 s0_9, WX5 cy h_p1 a1 s1]) H := by rw [es]; exact hP
  have hD : va_D A (flat [WX5 cy h0 a0 s0_9, WX5 cy h_p1 a1 s1]) := by rw [es]; exact hD
  clear es
  exact hret 99 H locs ls s0_9 (Option.some.inj h) hP hD hS dX5_copyFrom_99
set_option maxRecDepth 20000 in
theorem ggX4_giveBack_X0_copyFrom : GoodIn wsX4_giveBack wsX0_copyFrom := goodIn_r _ [7, 8, 9, 10, 11, 12, 13, 14, 15, 16, 17, 18, 19, 20, 21, 22, 23, 24, 25, 42, 43, 44, 45, 46, 47, 48, 49, 50, 51, 52, 53, 54, 55] (by decide +kernel) (by decide +kernel)
set_option maxRecDepth 20000 in
theorem gX4_giveBack_X0_copyFrom : GoodIn wsX4_giveBack (wsV RX4 23 RX0 yX0_copyFrom wsX0_copyFrom) := goodIn_app (goodIn_of _ (by decide +kernel)) ggX4_giveBack_X0_copyFrom
set_option maxRecDepth 20000 in
theorem ggX4_giveBack_X5_copyFrom : GoodIn wsX4_giveBack wsX5_copyFrom := goodIn_r _ [30, 31, 32, 10, 11, 12, 33, 34, 35, 36, 37, 38, 39, 56, 57, 58, 59, 60, 61, 62, 63] (by decide +kernel) (by decide +kernel)
set_option maxRecDepth 20000 in
theorem gX4_giveBack_X5_copyFrom : GoodIn wsX4_giveBack (wsV RX4 27 RX5 yX5_copyFrom wsX5_copyFrom) := goodIn_app (goodIn_of _ (by decide +kernel)) ggX4_giveBack_X5_copyFrom
theorem dX4_giveBack_0 : decode cX4_giveBack 0 = .ok (.aload_n 1, 1) := by decide +kernel
theorem dX4_giveBack_1 : decode cX4_giveBack 1 = .ok (.aload_n 0, 1) := by decide +kernel
theorem dX4_giveBack_2 : decode cX4_giveBack 2 = .ok (.getfield 10, 3) := by decide +kernel
theorem dX4_giveBack_5 : decode cX4_giveBack 5 = .ok (.invokevirtual 23, 3) := by decide +kernel
theorem dX4_giveBack_8 : decode cX4_giveBack 8 = .ok (.aload_n 2, 1) := by decide +kernel
theorem dX4_giveBack_9 : decode cX4_giveBack 9 = .ok (.aload_n 0, 1) := by decide +kernel
theorem dX4_giveBack_10 : decode cX4_giveBack 10 = .ok (.getfield 19, 3) := by decide +kernel
theorem dX4_giveBack_13 : decode cX4_giveBack 13 = .ok (.invokevirtual 27, 3) := by decide +kernel
theorem dX4_giveBack_16 : decode cX4_giveBack 16 = .ok (.return_, 1) := by decide +kernel
abbrev rmX4_giveBack : Room := { frames := 2, cells := 0, slots := 0, locals := 61 }
set_option maxHeartbeats 4000000 in
set_option maxRecDepth 100000 in
theorem kX4_giveBack (l : Launch) (D : va_G) (cy : Nat → ClassId) (h0 : Nat) (h_p1 : Nat) (h_p2 : Nat) (a0 : Nat → Nat) (a1 : Nat → Nat) (a2 : Nat → Nat) (a3 : Nat → Nat) (a4 : Nat → Nat) (s0 : Rc) (s1 : Rc) (s2 : Rc) (s3 : Rc) (s4 : Rc) (res : Rc × Rc) (h : fX4_giveBack s0 s1 s2 s3 s4 = some res) : CV l D cy yX4_giveBack wsX4_giveBack rmX4_giveBack [.ref h0, .ref h_p1, .ref h_p2] (flat [WX4 cy h0 a0 s0, WX0 cy (a0 0) a1 s1, WX5 cy (a0 1) a2 s2, WX0 cy h_p1 a3 s3, WX5 cy h_p2 a4 s4]) (flat [WX4 cy h0 a0 s0, WX0 cy (a0 0) a1 s1, WX5 cy (a0 1) a2 s2, WX0 cy h_p1 a3 res.1, WX5 cy h_p2 a4 res.2]) := by
  refine CV.of (cc := cX4_giveBack) (maxL := 3) (by decide) rfl (Nat.le_of_ble_eq_true rfl) ?_
  intro p e s m args below meth c A QQ ls E hr
  obtain ⟨hx, hb, hml, hown, hts, hK, hN, hP, hD, hA, hl⟩ := E
  have hret : ∀ (pc : Nat) (H : Heap) (locs : List Loc) (ls : Array Slot) (u : Rc × Rc), u = res → va_P D vwCl (flat [WX4 cy h0 a0 s0, WX0 cy (a0 0) a1 s1, WX5 cy (a0 1) a2 s2, WX0 cy h_p1 a3 u.1, WX5 cy h_p2 a4 u.2]) H → va_D A (flat [WX4 cy h0 a0 s0, WX0 cy (a0 0) a1 s1, WX5 cy (a0 1) a2 s2, WX0 cy h_p1 a3 u.1, WX5 cy h_p2 a4 u.2]) → va_S A s.heap H locs → decode cX4_giveBack pc = .ok (.return_, 1) → W p l e rmX4_giveBack s m args below meth c H locs 0 0 QQ (F0 m pc ls []) := by
    intro pc H locs ls u hu hP hD hS hd; subst hu; exact hr pc H locs ls hP hD hS hd
  clear hr
  have hl : lv_has ls 3 [(0, .ref h0), (1, .ref h_p1), (2, .ref h_p2)] := hl
  have hinX4 : ∀ w ∈ wsX40, w ∈ wsX4_giveBack := fun _ h => List.mem_cons_of_mem _ (List.mem_append_left _ (List.mem_append_left _ (List.mem_append_right _ h)))
  unfold fX4_giveBack at h
  suffices key : ∀ (H : Heap) (locs : List Loc), va_P D vwCl (flat [WX4 cy h0 a0 s0, WX0 cy (a0 0) a1 s1, WX5 cy (a0 1) a2 s2, WX0 cy h_p1 a3 s3, WX5 cy h_p2 a4 s4]) H → va_S A s.heap H locs → W p l e rmX4_giveBack s m args below meth c H locs 0 0 QQ (F0 m 0 ls []) from key _ _ hP va_S.rf
  clear hP
  intro H locs hP hS
  refine lv_aload_n hx hb dX4_giveBack_0 rfl (lv_at hl 1 rfl) ?_
  refine lv_aload_n hx hb dX4_giveBack_1 rfl (lv_at hl 0 rfl) ?_
  refine va_get (D := D) (ci := 4) (v := .ref (a0 0)) (C := RX4) (T := TX4) (N := 2) hx hb hts hinX4 hown hK hP 0 rfl rfl 0 (by decide) (hts (.fieldLink RX4 10 "KneeBench$Mark" "bench" "LKneeBench$Bench;") (List.mem_of_getElem? (i := 1) rfl)) (fun _ h9 => h9) rfl dX4_giveBack_2 ?_
  obtain ⟨r1, hr1, h⟩ := bd_elim h
  refine ca_v (w' := [WX4 cy h0 a0 s0, WX0 cy (a0 0) a1 s1, WX5 cy (a0 1) a2 s2, WX0 cy h_p1 a3 r1, WX5 cy h_p2 a4 s4]) (rn_V (As := [.ref (a0 0)]) (rest := []) ⟨hx, hb, hml, hown, hts⟩ (kX0_copyFrom l D cy h_p1 (a0 0) a3 a1 s3 s1 r1 hr1 H.size) (cwV 1 hts gX4_giveBack_X0_copyFrom rfl rfl rfl (by decide +kernel) ⟨Nat.le_of_ble_eq_true rfl, Nat.le_of_ble_eq_true rfl⟩) hK hN hP hD [3, 1] rfl rfl (ci := 0) (q0 := 16) rfl rfl rfl rfl hl.1 rfl (Nat.le_of_ble_eq_true rfl) dX4_giveBack_5 ⟨Nat.le_refl 0, Nat.le_refl 0⟩) hP hD hS hA [3, 1] ⟨rfl, rfl, rfl, rfl⟩ (fun H locs hP hD hS => ?_)
  refine lv_aload_n hx hb dX4_giveBack_8 rfl (lv_at hl 2 rfl) ?_
  refine lv_aload_n hx hb dX4_giveBack_9 rfl (lv_at hl 0 rfl) ?_
  refine va_get (D := D) (ci := 4) (v := .ref (a0 1)) (C := RX4) (T := TX4) (N := 2) hx hb hts hinX4 hown hK hP 0 rfl rfl 1 (by decide) (hts (.fieldLink RX4 19 "KneeBench$Mark" "season" "LKneeBench$Season;") (List.mem_of_getElem? (i := 2) rfl)) (fun _ h9 => h9) rfl dX4_giveBack_10 ?_
  obtain ⟨r2, hr2, h⟩ := bd_elim h
  refine ca_v (w' := [WX4 cy h0 a0 s0, WX0 cy (a0 0) a1 s1, WX5 cy (a0 1) a2 s2, WX0 cy h_p1 a3 r1, WX5 cy h_p2 a4 r2]) (rn_V (As := [.ref (a0 1)]) (rest := []) ⟨hx, hb, hml, hown, hts⟩ (kX5_copyFrom l D cy h_p2 (a0 1) a4 a2 s4 s2 r2 hr2 H.size) (cwV 1 hts gX4_giveBack_X5_copyFrom rfl rfl rfl (by decide +kernel) ⟨Nat.le_of_ble_eq_true rfl, Nat.le_of_ble_eq_true rfl⟩) hK hN hP hD [4, 2] rfl rfl (ci := 5) (q0 := 25) rfl rfl rfl rfl hl.1 rfl (Nat.le_of_ble_eq_true rfl) dX4_giveBack_13 ⟨Nat.le_refl 0, Nat.le_refl 0⟩) hP hD hS hA [4, 2] ⟨rfl, rfl, rfl, rfl⟩ (fun H locs hP hD hS => ?_)
  exact hret 16 H locs ls (r1, r2) (Option.some.inj h) hP hD hS dX4_giveBack_16
set_option maxRecDepth 20000 in
theorem ggX4_keep_X0_copyFrom : GoodIn wsX4_keep wsX0_copyFrom := goodIn_r _ [7, 8, 9, 10, 11, 12, 13, 14, 15, 16, 17, 18, 19, 20, 21, 22, 23, 24, 25, 42, 43, 44, 45, 46, 47, 48, 49, 50, 51, 52, 53, 54, 55] (by decide +kernel) (by decide +kernel)
set_option maxRecDepth 20000 in
theorem gX4_keep_X0_copyFrom : GoodIn wsX4_keep (wsV RX4 23 RX0 yX0_copyFrom wsX0_copyFrom) := goodIn_app (goodIn_of _ (by decide +kernel)) ggX4_keep_X0_copyFrom
set_option maxRecDepth 20000 in
theorem ggX4_keep_X5_copyFrom : GoodIn wsX4_keep wsX5_copyFrom := goodIn_r _ [30, 31, 32, 10, 11, 12, 33, 34, 35, 36, 37, 38, 39, 56, 57, 58, 59, 60, 61, 62, 63] (by decide +kernel) (by decide +kernel)
set_option maxRecDepth 20000 in
theorem gX4_keep_X5_copyFrom : GoodIn wsX4_keep (wsV RX4 27 RX5 yX5_copyFrom wsX5_copyFrom) := goodIn_app (goodIn_of _ (by decide +kernel)) ggX4_keep_X5_copyFrom
theorem dX4_keep_0 : decode cX4_keep 0 = .ok (.aload_n 0, 1) := by decide +kernel
theorem dX4_keep_1 : decode cX4_keep 1 = .ok (.getfield 10, 3) := by decide +kernel
theorem dX4_keep_4 : decode cX4_keep 4 = .ok (.aload_n 1, 1) := by decide +kernel
theorem dX4_keep_5 : decode cX4_keep 5 = .ok (.invokevirtual 23, 3) := by decide +kernel
theorem dX4_keep_8 : decode cX4_keep 8 = .ok (.aload_n 0, 1) := by decide +kernel
theorem dX4_keep_9 : decode cX4_keep 9 = .ok (.getfield 19, 3) := by decide +kernel
theorem dX4_keep_12 : decode cX4_keep 12 = .ok (.aload_n 2, 1) := by decide +kernel
theorem dX4_keep_13 : decode cX4_keep 13 = .ok (.invokevirtual 27, 3) := by decide +kernel
theorem dX4_keep_16 : decode cX4_keep 16 = .ok (.return_, 1) := by decide +kernel
abbrev rmX4_keep : Room := { frames := 2, cells := 0, slots := 0, locals := 61 }
set_option maxHeartbeats 4000000 in
set_option maxRecDepth 100000 in
theorem kX4_keep (l : Launch) (D : va_G) (cy : Nat → ClassId) (h0 : Nat) (h_p1 : Nat) (h_p2 : Nat) (a0 : Nat → Nat) (a1 : Nat → Nat) (a2 : Nat → Nat) (a3 : Nat → Nat) (a4 : Nat → Nat) (s0 : Rc) (s1 : Rc) (s2 : Rc) (s3 : Rc) (s4 : Rc) (res : Rc × Rc) (h : fX4_keep s0 s1 s2 s3 s4 = some res) : CV l D cy yX4_keep wsX4_keep rmX4_keep [.ref h0, .ref h_p1, .ref h_p2] (flat [WX4 cy h0 a0 s0, WX0 cy (a0 0) a1 s1, WX5 cy (a0 1) a2 s2, WX0 cy h_p1 a3 s3, WX5 cy h_p2 a4 s4]) (flat [WX4 cy h0 a0 s0, WX0 cy (a0 0) a1 res.1, WX5 cy (a0 1) a2 res.2, WX0 cy h_p1 a3 s3, WX5 cy h_p2 a4 s4]) := by
  refine CV.of (cc := cX4_keep) (maxL := 3) (by decide) rfl (Nat.le_of_ble_eq_true rfl) ?_
  intro p e s m args below meth c A QQ ls E hr
  obtain ⟨hx, hb, hml, hown, hts, hK, hN, hP, hD, hA, hl⟩ := E
  have hret : ∀ (pc : Nat) (H : Heap) (locs : List Loc) (ls : Array Slot) (u : Rc × Rc), u = res → va_P D vwCl (flat [WX4 cy h0 a0 s0, WX0 cy (a0 0) a1 u.1, WX5 cy (a0 1) a2 u.2, WX0 cy h_p1 a3 s3, WX5 cy h_p2 a4 s4]) H → va_D A (flat [WX4 cy h0 a0 s0, WX0 cy (a0 0) a1 u.1, WX5 cy (a0 1) a2 u.2, WX0 cy h_p1 a3 s3, WX5 cy h_p2 a4 s4]) → va_S A s.heap H locs → decode cX4_keep pc = .ok (.return_, 1) → W p l e rmX4_keep s m args below meth c H locs 0 0 QQ (F0 m pc ls []) := by
    intro pc H locs ls u hu hP hD hS hd; subst hu; exact hr pc H locs ls hP hD hS hd
  clear hr
  have hl : lv_has ls 3 [(0, .ref h0), (1, .ref h_p1), (2, .ref h_p2)] := hl
  have hinX4 : ∀ w ∈ wsX40, w ∈ wsX4_keep := fun _ h => List.mem_cons_of_mem _ (List.mem_append_left _ (List.mem_append_left _ (List.mem_append_right _ h)))
  unfold fX4_keep at h
  suffices key : ∀ (H : Heap) (locs : List Loc), va_P D vwCl (flat [WX4 cy h0 a0 s0, WX0 cy (a0 0) a1 s1, WX5 cy (a0 1) a2 s2, WX0 cy h_p1 a3 s3, WX5 cy h_p2 a4 s4]) H → va_S A s.heap H locs → W p l e rmX4_keep s m args below meth c H locs 0 0 QQ (F0 m 0 ls []) from key _ _ hP va_S.rf
  clear hP
  intro H locs hP hS
  refine lv_aload_n hx hb dX4_keep_0 rfl (lv_at hl 0 rfl) ?_
  refine va_get (D := D) (ci := 4) (v := .ref (a0 0)) (C := RX4) (T := TX4) (N := 2) hx hb hts hinX4 hown hK hP 0 rfl rfl 0 (by decide) (hts (.fieldLink RX4 10 "KneeBench$Mark" "bench" "LKneeBench$Bench;") (List.mem_of_getElem? (i := 1) rfl)) (fun _ h9 => h9) rfl dX4_keep_1 ?_
  refine lv_aload_n hx hb dX4_keep_4 rfl (lv_at hl 1 rfl) ?_
  obtain ⟨r1, hr1, h⟩ := bd_elim h
  refine ca_v (w' := [WX4 cy h0 a0 s0, WX0 cy (a0 0) a1 r1, WX5 cy (a0 1) a2 s2, WX0 cy h_p1 a3 s3, WX5 cy h_p2 a4 s4]) (rn_V (As := [.ref h_p1]) (rest := []) ⟨hx, hb, hml, hown, hts⟩ (kX0_copyFrom l D cy (a0 0) h_p1 a1 a3 s1 s3 r1 hr1 H.size) (cwV 1 hts gX4_keep_X0_copyFrom rfl rfl rfl (by decide +kernel) ⟨Nat.le_of_ble_eq_true rfl, Nat.le_of_ble_eq_true rfl⟩) hK hN hP hD [1, 3] rfl rfl (ci := 0) (q0 := 1) rfl rfl rfl rfl hl.1 rfl (Nat.le_of_ble_eq_true rfl) dX4_keep_5 ⟨Nat.le_refl 0, Nat.le_refl 0⟩) hP hD hS hA [1, 3] ⟨rfl, rfl, rfl, rfl⟩ (fun H locs hP hD hS => ?_)
  refine lv_aload_n hx hb dX4_keep_8 rfl (lv_at hl 0 rfl) ?_
  refine va_get (D := D) (ci := 4) (v := .ref (a0 1)) (C := RX4) (T := TX4) (N := 2) hx hb hts hinX4 hown hK hP 0 rfl rfl 1 (by decide) (hts (.fieldLink RX4 19 "KneeBench$Mark" "season" "LKneeBench$Season;") (List.mem_of_getElem? (i := 2) rfl)) (fun _ h9 => h9) rfl dX4_keep_9 ?_
  refine lv_aload_n hx hb dX4_keep_12 rfl (lv_at hl 2 rfl) ?_
  obtain ⟨r2, hr2, h⟩ := bd_elim h
  refine ca_v (w' := [WX4 cy h0 a0 s0, WX0 cy (a0 0) a1 r1, WX5 cy (a0 1) a2 r2, WX0 cy h_p1 a3 s3, WX5 cy h_p2 a4 s4]) (rn_V (As := [.ref h_p2]) (rest := []) ⟨hx, hb, hml, hown, hts⟩ (kX5_copyFrom l D cy (a0 1) h_p2 a2 a4 s2 s4 r2 hr2 H.size) (cwV 1 hts gX4_keep_X5_copyFrom rfl rfl rfl (by decide +kernel) ⟨Nat.le_of_ble_eq_true rfl, Nat.le_of_ble_eq_true rfl⟩) hK hN hP hD [2, 4] rfl rfl (ci := 5) (q0 := 10) rfl rfl rfl rfl hl.1 rfl (Nat.le_of_ble_eq_true rfl) dX4_keep_13 ⟨Nat.le_refl 0, Nat.le_refl 0⟩) hP hD hS hA [2, 4] ⟨rfl, rfl, rfl, rfl⟩ (fun H locs hP hD hS => ?_)
  exact hret 16 H locs ls (r1, r2) (Option.some.inj h) hP hD hS dX4_keep_16
theorem dX5_empty_0 : decode cX5_empty 0 = .ok (.aload_n 0, 1) := by decide +kernel
theorem dX5_empty_1 : decode cX5_empty 1 = .ok (.iconst 0, 1) := by decide +kernel
theorem dX5_empty_2 : decode cX5_empty 2 = .ok (.putfield 27, 3) := by decide +kernel
theorem dX5_empty_5 : decode cX5_empty 5 = .ok (.aload_n 0, 1) := by decide +kernel
theorem dX5_empty_6 : decode cX5_empty 6 = .ok (.iconst 0, 1) := by decide +kernel
theorem dX5_empty_7 : decode cX5_empty 7 = .ok (.putfield 31, 3) := by decide +kernel
theorem dX5_empty_10 : decode cX5_empty 10 = .ok (.aload_n 0, 1) := by decide +kernel
theorem dX5_empty_11 : decode cX5_empty 11 = .ok (.iconst 0, 1) := by decide +kernel
theorem dX5_empty_12 : decode cX5_empty 12 = .ok (.putfield 34, 3) := by decide +kernel
theorem dX5_empty_15 : decode cX5_empty 15 = .ok (.return_, 1) := by decide +kernel
abbrev rmX5_empty : Room := { frames := 0, cells := 0, slots := 0, locals := 0 }
set_option maxHeartbeats 4000000 in
set_option maxRecDepth 100000 in
theorem kX5_empty (l : Launch) (D : va_G) (cy : Nat → ClassId) (h0 : Nat) (a0 : Nat → Nat) (s0 : Rc) (res : Rc) (h : fX5_empty s0 = res) : CV l D cy yX5_empty wsX5_empty rmX5_empty [.ref h0] (flat [WX5 cy h0 a0 s0]) (flat [WX5 cy h0 a0 res]) := by
  refine CV.of (cc := cX5_empty) (maxL := 1) (by decide) rfl (Nat.le_of_ble_eq_true rfl) ?_
  intro p e s m args below meth c A QQ ls E hr
  obtain ⟨hx, hb, hml, hown, hts, hK, hN, hP, hD, hA, hl⟩ := E
  have hret : ∀ (pc : Nat) (H : Heap) (locs : List Loc) (ls : Array Slot) (u : Rc), u = res → va_P D vwCl (flat [WX5 cy h0 a0 u]) H → va_D A (flat [WX5 cy h0 a0 u]) → va_S A s.heap H locs → decode cX5_empty pc = .ok (.return_, 1) → W p l e rmX5_empty s m args below meth c H locs 0 0 QQ (F0 m pc ls []) := by
    intro pc H locs ls u hu hP hD hS hd; subst hu; exact hr pc H locs ls hP hD hS hd
  clear hr
  have hl : lv_has ls 1 [(0, .ref h0)] := hl
  have hinX5 : ∀ w ∈ wsX50, w ∈ wsX5_empty := fun _ h => List.mem_cons_of_mem _ (List.mem_append_right _ h)
  unfold fX5_empty at h
  suffices key : ∀ (H : Heap) (locs : List Loc), va_P D vwCl (flat [WX5 cy h0 a0 s0]) H → va_S A s.heap H locs → W p l e rmX5_empty s m args below meth c H locs 0 0 QQ (F0 m 0 ls []) from key _ _ hP va_S.rf
  clear hP
  intro H locs hP hS
  refine lv_aload_n hx hb dX5_empty_0 rfl (lv_at hl 0 rfl) ?_
  refine lv_iconst (v := 0) hx hb dX5_empty_1 (by decide) ?_
  obtain ⟨s0_1, es, h⟩ := lt_elim h
  refine va_put (D := D) (ci := 5) (v := .int (0 : Int32)) (ty := .int) (C := RX5) (T := TX5) (N := 8) hx hb hts hinX5 tyX5 tyX5_ok nmX5 hown hK hP hD hS 0 rfl rfl 5 (by decide) (hts (.fieldLink RX5 27 "KneeBench$Season" "size" "I") (List.mem_of_getElem? (i := 1) rfl)) (fun _ h9 => h9) rfl (by decide +kernel) rfl rfl (Nat.le_of_ble_eq_true rfl) dX5_empty_2 (fun H locs hP hD hS => ?_)
  have hP : va_P D vwCl (flat [WX5 cy h0 a0 s0_1]) H := by rw [es]; exact hP
  have hD : va_D A (flat [WX5 cy h0 a0 s0_1]) := by rw [es]; exact hD
  clear es
  refine lv_aload_n hx hb dX5_empty_5 rfl (lv_at hl 0 rfl) ?_
  refine lv_iconst (v := 0) hx hb dX5_empty_6 (by decide) ?_
  obtain ⟨s0_2, es, h⟩ := lt_elim h
  refine va_put (D := D) (ci := 5) (v := .int (0 : Int32)) (ty := .int) (C := RX5) (T := TX5) (N := 8) hx hb hts hinX5 tyX5 tyX5_ok nmX5 hown hK hP hD hS 0 rfl rfl 6 (by decide) (hts (.fieldLink RX5 31 "KneeBench$Season" "steps" "I") (List.mem_of_getElem? (i := 2) rfl)) (fun _ h9 => h9) rfl (by decide +kernel) rfl rfl (Nat.le_of_ble_eq_true rfl) dX5_empty_7 (fun H locs hP hD hS => ?_)
  have hP : va_P D vwCl (flat [WX5 cy h0 a0 s0_2]) H := by rw [es]; exact hP
  have hD : va_D A (flat [WX5 cy h0 a0 s0_2]) := by rw [es]; exact hD
  clear es
  refine lv_aload_n hx hb dX5_empty_10 rfl (lv_at hl 0 rfl) ?_
  refine lv_iconst (v := 0) hx hb dX5_empty_11 (by decide) ?_
  obtain ⟨s0_3, es, h⟩ := lt_elim h
  refine va_put (D := D) (ci := 5) (v := .int (0 : Int32)) (ty := .boolean) (C := RX5) (T := TX5) (N := 8) hx hb hts hinX5 tyX5 tyX5_ok nmX5 hown hK hP hD hS 0 rfl rfl 7 (by decide) (hts (.fieldLink RX5 34 "KneeBench$Season" "isThere" "Z") (List.mem_of_getElem? (i := 3) rfl)) (fun _ h9 => h9) rfl (by decide +kernel) (isb_nar (show isb (0 : Int32) = true by decide)) (isb_fit (show isb (0 : Int32) = true by decide)) (Nat.le_of_ble_eq_true rfl) dX5_empty_12 (fun H locs hP hD hS => ?_)
  have hP : va_P D vwCl (flat [WX5 cy h0 a0 s0_3]) H := by rw [es]; exact hP
  have hD : va_D A (flat [WX5 cy h0 a0 s0_3]) := by rw [es]; exact hD
  clear es
  exact hret 15 H locs ls s0_3 h hP hD hS dX5_empty_15
