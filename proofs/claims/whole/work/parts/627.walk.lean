set_option maxRecDepth 20000 in
theorem ggX6_readEnd_X8_fail : GoodIn wsX6_readEnd wsX8_fail := goodIn_r _ [10, 11, 12, 13, 56, 57, 58, 59, 60, 61, 62, 63, 64, 65, 66, 67, 68, 69] (by decide +kernel) (by decide +kernel)
set_option maxRecDepth 20000 in
theorem gX6_readEnd_X8_fail : GoodIn wsX6_readEnd (wsV RX6 71 RX8 yX8_fail wsX8_fail) := goodIn_app (goodIn_of _ (by decide +kernel)) ggX6_readEnd_X8_fail
set_option maxRecDepth 20000 in
theorem ggX6_readEnd_X8_advance : GoodIn wsX6_readEnd wsX8_advance := goodIn_r _ [17, 18, 12, 19, 20, 21, 22, 23, 24, 25, 26, 27, 9, 28, 29, 30, 31, 32, 33, 34, 35, 36, 37, 38, 39, 40, 41, 7, 8, 10, 11, 13, 56, 57, 58, 59, 60, 61, 62, 63, 64, 65, 66, 67, 68, 69] (by decide +kernel) (by decide +kernel)
set_option maxRecDepth 20000 in
theorem gX6_readEnd_X8_advance : GoodIn wsX6_readEnd (wsV RX6 83 RX8 yX8_advance wsX8_advance) := goodIn_app (goodIn_of _ (by decide +kernel)) ggX6_readEnd_X8_advance
theorem dX6_readEnd_0 : decode cX6_readEnd 0 = .ok (.aload_n 0, 1) := by decide +kernel
theorem dX6_readEnd_1 : decode cX6_readEnd 1 = .ok (.getfield 15, 3) := by decide +kernel
theorem dX6_readEnd_4 : decode cX6_readEnd 4 = .ok (.ifCond .ne 12, 3) := by decide +kernel
theorem dX6_readEnd_7 : decode cX6_readEnd 7 = .ok (.aload_n 0, 1) := by decide +kernel
theorem dX6_readEnd_8 : decode cX6_readEnd 8 = .ok (.getfield 22, 3) := by decide +kernel
theorem dX6_readEnd_11 : decode cX6_readEnd 11 = .ok (.iconst 2, 1) := by decide +kernel
theorem dX6_readEnd_12 : decode cX6_readEnd 12 = .ok (.invokevirtual 71, 3) := by decide +kernel
theorem dX6_readEnd_15 : decode cX6_readEnd 15 = .ok (.ireturn, 1) := by decide +kernel
theorem dX6_readEnd_16 : decode cX6_readEnd 16 = .ok (.aload_n 0, 1) := by decide +kernel
theorem dX6_readEnd_17 : decode cX6_readEnd 17 = .ok (.dup, 1) := by decide +kernel
theorem dX6_readEnd_18 : decode cX6_readEnd 18 = .ok (.getfield 15, 3) := by decide +kernel
theorem dX6_readEnd_21 : decode cX6_readEnd 21 = .ok (.iconst 1, 1) := by decide +kernel
theorem dX6_readEnd_22 : decode cX6_readEnd 22 = .ok (.isub, 1) := by decide +kernel
theorem dX6_readEnd_23 : decode cX6_readEnd 23 = .ok (.putfield 15, 3) := by decide +kernel
theorem dX6_readEnd_26 : decode cX6_readEnd 26 = .ok (.aload_n 0, 1) := by decide +kernel
theorem dX6_readEnd_27 : decode cX6_readEnd 27 = .ok (.aload_n 0, 1) := by decide +kernel
theorem dX6_readEnd_28 : decode cX6_readEnd 28 = .ok (.getfield 26, 3) := by decide +kernel
theorem dX6_readEnd_31 : decode cX6_readEnd 31 = .ok (.getfield 74, 3) := by decide +kernel
theorem dX6_readEnd_34 : decode cX6_readEnd 34 = .ok (.putfield 19, 3) := by decide +kernel
theorem dX6_readEnd_37 : decode cX6_readEnd 37 = .ok (.aload_n 0, 1) := by decide +kernel
theorem dX6_readEnd_38 : decode cX6_readEnd 38 = .ok (.getfield 26, 3) := by decide +kernel
theorem dX6_readEnd_41 : decode cX6_readEnd 41 = .ok (.getfield 77, 3) := by decide +kernel
theorem dX6_readEnd_44 : decode cX6_readEnd 44 = .ok (.aload_n 0, 1) := by decide +kernel
theorem dX6_readEnd_45 : decode cX6_readEnd 45 = .ok (.getfield 19, 3) := by decide +kernel
theorem dX6_readEnd_48 : decode cX6_readEnd 48 = .ok (.bipush 28, 2) := by decide +kernel
theorem dX6_readEnd_50 : decode cX6_readEnd 50 = .ok (.iastore, 1) := by decide +kernel
theorem dX6_readEnd_51 : decode cX6_readEnd 51 = .ok (.aload_n 0, 1) := by decide +kernel
theorem dX6_readEnd_52 : decode cX6_readEnd 52 = .ok (.getfield 26, 3) := by decide +kernel
theorem dX6_readEnd_55 : decode cX6_readEnd 55 = .ok (.getfield 80, 3) := by decide +kernel
theorem dX6_readEnd_58 : decode cX6_readEnd 58 = .ok (.aload_n 0, 1) := by decide +kernel
theorem dX6_readEnd_59 : decode cX6_readEnd 59 = .ok (.getfield 19, 3) := by decide +kernel
theorem dX6_readEnd_62 : decode cX6_readEnd 62 = .ok (.aload_n 0, 1) := by decide +kernel
theorem dX6_readEnd_63 : decode cX6_readEnd 63 = .ok (.getfield 9, 3) := by decide +kernel
theorem dX6_readEnd_66 : decode cX6_readEnd 66 = .ok (.aload_n 0, 1) := by decide +kernel
theorem dX6_readEnd_67 : decode cX6_readEnd 67 = .ok (.getfield 15, 3) := by decide +kernel
theorem dX6_readEnd_70 : decode cX6_readEnd 70 = .ok (.iaload, 1) := by decide +kernel
theorem dX6_readEnd_71 : decode cX6_readEnd 71 = .ok (.iastore, 1) := by decide +kernel
theorem dX6_readEnd_72 : decode cX6_readEnd 72 = .ok (.aload_n 0, 1) := by decide +kernel
theorem dX6_readEnd_73 : decode cX6_readEnd 73 = .ok (.getfield 26, 3) := by decide +kernel
theorem dX6_readEnd_76 : decode cX6_readEnd 76 = .ok (.getfield 80, 3) := by decide +kernel
theorem dX6_readEnd_79 : decode cX6_readEnd 79 = .ok (.aload_n 0, 1) := by decide +kernel
theorem dX6_readEnd_80 : decode cX6_readEnd 80 = .ok (.getfield 9, 3) := by decide +kernel
theorem dX6_readEnd_83 : decode cX6_readEnd 83 = .ok (.aload_n 0, 1) := by decide +kernel
theorem dX6_readEnd_84 : decode cX6_readEnd 84 = .ok (.getfield 15, 3) := by decide +kernel
theorem dX6_readEnd_87 : decode cX6_readEnd 87 = .ok (.iaload, 1) := by decide +kernel
theorem dX6_readEnd_88 : decode cX6_readEnd 88 = .ok (.aload_n 0, 1) := by decide +kernel
theorem dX6_readEnd_89 : decode cX6_readEnd 89 = .ok (.getfield 19, 3) := by decide +kernel
theorem dX6_readEnd_92 : decode cX6_readEnd 92 = .ok (.iastore, 1) := by decide +kernel
theorem dX6_readEnd_93 : decode cX6_readEnd 93 = .ok (.aload_n 0, 1) := by decide +kernel
theorem dX6_readEnd_94 : decode cX6_readEnd 94 = .ok (.getfield 26, 3) := by decide +kernel
theorem dX6_readEnd_97 : decode cX6_readEnd 97 = .ok (.dup, 1) := by decide +kernel
theorem dX6_readEnd_98 : decode cX6_readEnd 98 = .ok (.getfield 74, 3) := by decide +kernel
theorem dX6_readEnd_101 : decode cX6_readEnd 101 = .ok (.iconst 1, 1) := by decide +kernel
theorem dX6_readEnd_102 : decode cX6_readEnd 102 = .ok (.iadd, 1) := by decide +kernel
theorem dX6_readEnd_103 : decode cX6_readEnd 103 = .ok (.putfield 74, 3) := by decide +kernel
theorem dX6_readEnd_106 : decode cX6_readEnd 106 = .ok (.aload_n 0, 1) := by decide +kernel
theorem dX6_readEnd_107 : decode cX6_readEnd 107 = .ok (.getfield 22, 3) := by decide +kernel
theorem dX6_readEnd_110 : decode cX6_readEnd 110 = .ok (.invokevirtual 83, 3) := by decide +kernel
theorem dX6_readEnd_113 : decode cX6_readEnd 113 = .ok (.ireturn, 1) := by decide +kernel
abbrev rmX6_readEnd : Room := { frames := 3, cells := 0, slots := 0, locals := 65 }
set_option maxHeartbeats 4000000 in
set_option maxRecDepth 100000 in
theorem kX6_readEnd (l : Launch) (D : va_G) (cy : Nat → ClassId) (h0 : Nat) (a0 : Nat → Nat) (a1 : Nat → Nat) (a2 : Nat → Nat) (s0 : Rc) (s1 : Rc) (s2 : Rc) (res : Int32 × Rc × Rc × Rc) (h : fX6_readEnd s0 s1 s2 = some res) : CZ l D cy yX6_readEnd wsX6_readEnd rmX6_readEnd [.ref h0] (flat [WX6 cy h0 a0 s0, WX8 cy (a0 0) a1 s1, WX5 cy (a0 1) a2 s2]) (flat [WX6 cy h0 a0 res.2.1, WX8 cy (a0 0) a1 res.2.2.1, WX5 cy (a0 1) a2 res.2.2.2]) res.1 := by
  refine CZ.of (cc := cX6_readEnd) (maxL := 1) (by decide) rfl (Nat.le_of_ble_eq_true rfl) ?_
  intro p e s m args below meth c A QQ ls E hr
  obtain ⟨hx, hb, hml, hown, hts, hK, hN, hP, hD, hA, hl⟩ := E
  have hret : ∀ (pc : Nat) (H : Heap) (locs : List Loc) (ls : Array Slot) (u : Int32 × Rc × Rc × Rc), u = res → va_P D vwCl (flat [WX6 cy h0 a0 u.2.1, WX8 cy (a0 0) a1 u.2.2.1, WX5 cy (a0 1) a2 u.2.2.2]) H → va_D A (flat [WX6 cy h0 a0 u.2.1, WX8 cy (a0 0) a1 u.2.2.1, WX5 cy (a0 1) a2 u.2.2.2]) → va_S A s.heap H locs → isb u.1 = true → decode cX6_readEnd pc = .ok (.ireturn, 1) → W p l e rmX6_readEnd s m args below meth c H locs 0 0 QQ (F0 m pc ls [.int u.1]) := by
    intro pc H locs ls u hu hP hD hS hz hd; subst hu; exact hr pc H locs ls _ rfl hP hD hS hz hd
  clear hr
  have hl : lv_has ls 1 [(0, .ref h0)] := hl
  have hinX5 : ∀ w ∈ wsX50, w ∈ wsX6_readEnd := fun _ h => List.mem_cons_of_mem _ (List.mem_append_left _ (List.mem_append_right _ h))
  have hinX6 : ∀ w ∈ wsX60, w ∈ wsX6_readEnd := fun _ h => List.mem_cons_of_mem _ (List.mem_append_left _ (List.mem_append_left _ (List.mem_append_right _ h)))
  unfold fX6_readEnd at h
  suffices key : ∀ (H : Heap) (locs : List Loc), va_P D vwCl (flat [WX6 cy h0 a0 s0, WX8 cy (a0 0) a1 s1, WX5 cy (a0 1) a2 s2]) H → va_S A s.heap H locs → W p l e rmX6_readEnd s m args below meth c H locs 0 0 QQ (F0 m 0 ls []) from key _ _ hP va_S.rf
  clear hP
  intro H locs hP hS
  refine lv_aload_n hx hb dX6_readEnd_0 rfl (lv_at hl 0 rfl) ?_
  refine va_get (D := D) (ci := 6) (v := .int (gi s0 4)) (C := RX6) (T := TX6) (N := 6) hx hb hts hinX6 hown hK hP 0 rfl rfl 4 (by decide) (hts (.fieldLink RX6 15 "KneeBench$SeasonText" "depth" "I") (List.mem_of_getElem? (i := 1) rfl)) (fun _ h9 => h9) rfl dX6_readEnd_1 ?_
  refine lv_if_ne (tgt := 16) hx hb dX6_readEnd_4 (by decide) (fun c1 => ?_) (fun c1 => ?_)
  · replace h := (if_neg c1).symm.trans h
    refine lv_aload_n hx hb dX6_readEnd_16 rfl (lv_at hl 0 rfl) ?_
    refine lv_dup hx hb dX6_readEnd_17 rfl ?_
    refine va_get (D := D) (ci := 6) (v := .int (gi s0 4)) (C := RX6) (T := TX6) (N := 6) hx hb hts hinX6 hown hK hP 0 rfl rfl 4 (by decide) (hts (.fieldLink RX6 15 "KneeBench$SeasonText" "depth" "I") (List.mem_of_getElem? (i := 1) rfl)) (fun _ h9 => h9) rfl dX6_readEnd_18 ?_
    refine lv_iconst (v := 1) hx hb dX6_readEnd_21 (by decide) ?_
    refine lv_isub hx hb dX6_readEnd_22 ?_
    obtain ⟨s0_2, es, h⟩ := lt_elim h
    refine va_put (D := D) (ci := 6) (v := .int ((gi s0 4) - (1 : Int32))) (ty := .int) (C := RX6) (T := TX6) (N := 6) hx hb hts hinX6 tyX6 tyX6_ok nmX6 hown hK hP hD hS 0 rfl rfl 4 (by decide) (hts (.fieldLink RX6 15 "KneeBench$SeasonText" "depth" "I") (List.mem_of_getElem? (i := 1) rfl)) (fun _ h9 => h9) rfl (by decide +kernel) rfl rfl (Nat.le_of_ble_eq_true rfl) dX6_readEnd_23 (fun H locs hP hD hS => ?_)
    have hP : va_P D vwCl (flat [WX6 cy h0 a0 s0_2, WX8 cy (a0 0) a1 s1, WX5 cy (a0 1) a2 s2]) H := by rw [es]; exact hP
    have hD : va_D A (flat [WX6 cy h0 a0 s0_2, WX8 cy (a0 0) a1 s1, WX5 cy (a0 1) a2 s2]) := by rw [es]; exact hD
    clear es
    refine lv_aload_n hx hb dX6_readEnd_26 rfl (lv_at hl 0 rfl) ?_
    refine lv_aload_n hx hb dX6_readEnd_27 rfl (lv_at hl 0 rfl) ?_
    refine va_get (D := D) (ci := 6) (v := .ref (a0 1)) (C := RX6) (T := TX6) (N := 6) hx hb hts hinX6 hown hK hP 0 rfl rfl 1 (by decide) (hts (.fieldLink RX6 26 "KneeBench$SeasonText" "draft" "LKneeBench$Season;") (List.mem_of_getElem? (i := 3) rfl)) (fun _ h9 => h9) rfl dX6_readEnd_28 ?_
    refine va_getN (D := D) (ci := 5) (v := .int (gi s2 5)) (C := RX5) (T := TX5) (N := 8) hx hb hts hinX5 hown hK hP 5 rfl rfl 5 (by decide) (NW.fld hN 36 rfl _) (fun _ h9 => h9) rfl dX6_readEnd_31 ?_
    obtain ⟨s0_3, es, h⟩ := lt_elim h
    refine va_put (D := D) (ci := 6) (v := .int (gi s2 5)) (ty := .int) (C := RX6) (T := TX6) (N := 6) hx hb hts hinX6 tyX6 tyX6_ok nmX6 hown hK hP hD hS 0 rfl rfl 5 (by decide) (hts (.fieldLink RX6 19 "KneeBench$SeasonText" "at" "I") (List.mem_of_getElem? (i := 4) rfl)) (fun _ h9 => h9) rfl (by decide +kernel) rfl rfl (Nat.le_of_ble_eq_true rfl) dX6_readEnd_34 (fun H locs hP hD hS => ?_)
    have hP : va_P D vwCl (flat [WX6 cy h0 a0 s0_3, WX8 cy (a0 0) a1 s1, WX5 cy (a0 1) a2 s2]) H := by rw [es]; exact hP
    have hD : va_D A (flat [WX6 cy h0 a0 s0_3, WX8 cy (a0 0) a1 s1, WX5 cy (a0 1) a2 s2]) := by rw [es]; exact hD
    clear es
    refine lv_aload_n hx hb dX6_readEnd_37 rfl (lv_at hl 0 rfl) ?_
    refine va_get (D := D) (ci := 6) (v := .ref (a0 1)) (C := RX6) (T := TX6) (N := 6) hx hb hts hinX6 hown hK hP 0 rfl rfl 1 (by decide) (hts (.fieldLink RX6 26 "KneeBench$SeasonText" "draft" "LKneeBench$Season;") (List.mem_of_getElem? (i := 3) rfl)) (fun _ h9 => h9) rfl dX6_readEnd_38 ?_
    refine va_getN (D := D) (ci := 5) (v := .ref (a2 0)) (C := RX5) (T := TX5) (N := 8) hx hb hts hinX5 hown hK hP 5 rfl rfl 0 (by decide) (NW.fld hN 26 rfl _) (fun _ h9 => h9) rfl dX6_readEnd_41 ?_
    refine lv_aload_n hx hb dX6_readEnd_44 rfl (lv_at hl 0 rfl) ?_
    refine va_get (D := D) (ci := 6) (v := .int (gi s0_3 5)) (C := RX6) (T := TX6) (N := 6) hx hb hts hinX6 hown hK hP 0 rfl rfl 5 (by decide) (hts (.fieldLink RX6 19 "KneeBench$SeasonText" "at" "I") (List.mem_of_getElem? (i := 4) rfl)) (fun _ h9 => h9) rfl dX6_readEnd_45 ?_
    refine lv_bipush (v := 28) hx hb dX6_readEnd_48 (by decide) ?_
    obtain ⟨g4, h⟩ := gd_elim h
    obtain ⟨s2_5, es, h⟩ := lt_elim h
    refine va_iast hx hb hK hP hD hS 6 1 rfl rfl (inb_in g4) dX6_readEnd_50 (fun H locs hP hD hS => ?_)
    have hP : va_P D vwCl (flat [WX6 cy h0 a0 s0_3, WX8 cy (a0 0) a1 s1, WX5 cy (a0 1) a2 s2_5]) H := by rw [es]; exact hP
    have hD : va_D A (flat [WX6 cy h0 a0 s0_3, WX8 cy (a0 0) a1 s1, WX5 cy (a0 1) a2 s2_5]) := by rw [es]; exact hD
    clear es
    refine lv_aload_n hx hb dX6_readEnd_51 rfl (lv_at hl 0 rfl) ?_
    refine va_get (D := D) (ci := 6) (v := .ref (a0 1)) (C := RX6) (T := TX6) (N := 6) hx hb hts hinX6 hown hK hP 0 rfl rfl 1 (by decide) (hts (.fieldLink RX6 26 "KneeBench$SeasonText" "draft" "LKneeBench$Season;") (List.mem_of_getElem? (i := 3) rfl)) (fun _ h9 => h9) rfl dX6_readEnd_52 ?_
    refine va_getN (D := D) (ci := 5) (v := .ref (a2 4)) (C := RX5) (T := TX5) (N := 8) hx hb hts hinX5 hown hK hP 5 rfl rfl 4 (by decide) (NW.fld hN 33 rfl _) (fun _ h9 => h9) rfl dX6_readEnd_55 ?_
    refine lv_aload_n hx hb dX6_readEnd_58 rfl (lv_at hl 0 rfl) ?_
    refine va_get (D := D) (ci := 6) (v := .int (gi s0_3 5)) (C := RX6) (T := TX6) (N := 6) hx hb hts hinX6 hown hK hP 0 rfl rfl 5 (by decide) (hts (.fieldLink RX6 19 "KneeBench$SeasonText" "at" "I") (List.mem_of_getElem? (i := 4) rfl)) (fun _ h9 => h9) rfl dX6_readEnd_59 ?_
    refine lv_aload_n hx hb dX6_readEnd_62 rfl (lv_at hl 0 rfl) ?_
    refine va_get (D := D) (ci := 6) (v := .ref (a0 3)) (C := RX6) (T := TX6) (N := 6) hx hb hts hinX6 hown hK hP 0 rfl rfl 3 (by decide) (hts (.fieldLink RX6 9 "KneeBench$SeasonText" "open" "[I") (List.mem_of_getElem? (i := 5) rfl)) (fun _ h9 => h9) rfl dX6_readEnd_63 ?_
    refine lv_aload_n hx hb dX6_readEnd_66 rfl (lv_at hl 0 rfl) ?_
    refine va_get (D := D) (ci := 6) (v := .int (gi s0_3 4)) (C := RX6) (T := TX6) (N := 6) hx hb hts hinX6 hown hK hP 0 rfl rfl 4 (by decide) (hts (.fieldLink RX6 15 "KneeBench$SeasonText" "depth" "I") (List.mem_of_getElem? (i := 1) rfl)) (fun _ h9 => h9) rfl dX6_readEnd_67 ?_
    obtain ⟨g6, h⟩ := gd_elim h
    refine va_iald hx hb hK hP 1 1 rfl rfl (inb_in g6) dX6_readEnd_70 ?_
    obtain ⟨s2_7, es, h⟩ := lt_elim h
    refine va_iast hx hb hK hP hD hS 10 1 rfl rfl (inb_in g4) dX6_readEnd_71 (fun H locs hP hD hS => ?_)
    have hP : va_P D vwCl (flat [WX6 cy h0 a0 s0_3, WX8 cy (a0 0) a1 s1, WX5 cy (a0 1) a2 s2_7]) H := by rw [es]; exact hP
    have hD : va_D A (flat [WX6 cy h0 a0 s0_3, WX8 cy (a0 0) a1 s1, WX5 cy (a0 1) a2 s2_7]) := by rw [es]; exact hD
    clear es
    refine lv_aload_n hx hb dX6_readEnd_72 rfl (lv_at hl 0 rfl) ?_
    refine va_get (D := D) (ci := 6) (v := .ref (a0 1)) (C := RX6) (T := TX6) (N := 6) hx hb hts hinX6 hown hK hP 0 rfl rfl 1 (by decide) (hts (.fieldLink RX6 26 "KneeBench$SeasonText" "draft" "LKneeBench$Season;") (List.mem_of_getElem? (i := 3) rfl)) (fun _ h9 => h9) rfl dX6_readEnd_73 ?_
    refine va_getN (D := D) (ci := 5) (v := .ref (a2 4)) (C := RX5) (T := TX5) (N := 8) hx hb hts hinX5 hown hK hP 5 rfl rfl 4 (by decide) (NW.fld hN 33 rfl _) (fun _ h9 => h9) rfl dX6_readEnd_76 ?_
    refine lv_aload_n hx hb dX6_readEnd_79 rfl (lv_at hl 0 rfl) ?_
    refine va_get (D := D) (ci := 6) (v := .ref (a0 3)) (C := RX6) (T := TX6) (N := 6) hx hb hts hinX6 hown hK hP 0 rfl rfl 3 (by decide) (hts (.fieldLink RX6 9 "KneeBench$SeasonText" "open" "[I") (List.mem_of_getElem? (i := 5) rfl)) (fun _ h9 => h9) rfl dX6_readEnd_80 ?_
    refine lv_aload_n hx hb dX6_readEnd_83 rfl (lv_at hl 0 rfl) ?_
    refine va_get (D := D) (ci := 6) (v := .int (gi s0_3 4)) (C := RX6) (T := TX6) (N := 6) hx hb hts hinX6 hown hK hP 0 rfl rfl 4 (by decide) (hts (.fieldLink RX6 15 "KneeBench$SeasonText" "depth" "I") (List.mem_of_getElem? (i := 1) rfl)) (fun _ h9 => h9) rfl dX6_readEnd_84 ?_
    refine va_iald hx hb hK hP 1 1 rfl rfl (inb_in g6) dX6_readEnd_87 ?_
    refine lv_aload_n hx hb dX6_readEnd_88 rfl (lv_at hl 0 rfl) ?_
    refine va_get (D := D) (ci := 6) (v := .int (gi s0_3 5)) (C := RX6) (T := TX6) (N := 6) hx hb hts hinX6 hown hK hP 0 rfl rfl 5 (by decide) (hts (.fieldLink RX6 19 "KneeBench$SeasonText" "at" "I") (List.mem_of_getElem? (i := 4) rfl)) (fun _ h9 => h9) rfl dX6_readEnd_89 ?_
    obtain ⟨g8, h⟩ := gd_elim h
    obtain ⟨s2_9, es, h⟩ := lt_elim h
    refine va_iast hx hb hK hP hD hS 10 1 rfl rfl (inb_in g8) dX6_readEnd_92 (fun H locs hP hD hS => ?_)
    have hP : va_P D vwCl (flat [WX6 cy h0 a0 s0_3, WX8 cy (a0 0) a1 s1, WX5 cy (a0 1) a2 s2_9]) H := by rw [es]; exact hP
    have hD : va_D A (flat [WX6 cy h0 a0 s0_3, WX8 cy (a0 0) a1 s1, WX5 cy (a0 1) a2 s2_9]) := by rw [es]; exact hD
    clear es
    refine lv_aload_n hx hb dX6_readEnd_93 rfl (lv_at hl 0 rfl) ?_
    refine va_get (D := D) (ci := 6) (v := .ref (a0 1)) (C := RX6) (T := TX6) (N := 6) hx hb hts hinX6 hown hK hP 0 rfl rfl 1 (by decide) (hts (.fieldLink RX6 26 "KneeBench$SeasonText" "draft" "LKneeBench$Season;") (List.mem_of_getElem? (i := 3) rfl)) (fun _ h9 => h9) rfl dX6_readEnd_94 ?_
    refine lv_dup hx hb dX6_readEnd_97 rfl ?_
    refine va_getN (D := D) (ci := 5) (v := .int (gi s2_9 5)) (C := RX5) (T := TX5) (N := 8) hx hb hts hinX5 hown hK hP 5 rfl rfl 5 (by decide) (NW.fld hN 36 rfl _) (fun _ h9 => h9) rfl dX6_readEnd_98 ?_
    refine lv_iconst (v := 1) hx hb dX6_readEnd_101 (by decide) ?_
    refine lv_iadd hx hb dX6_readEnd_102 ?_
    obtain ⟨s2_10, es, h⟩ := lt_elim h
    refine va_putN (D := D) (ci := 5) (v := .int ((gi s2_9 5) + (1 : Int32))) (ty := .int) (C := RX5) (T := TX5) (N := 8) hx hb hts hinX5 tyX5 tyX5_ok nmX5 hown hK hP hD hS 5 rfl rfl 5 (by decide) (NW.fld hN 36 rfl _) (fun _ h9 => h9) rfl (by decide +kernel) rfl rfl (Nat.le_of_ble_eq_true rfl) dX6_readEnd_103 (fun H locs hP hD hS => ?_)
    have hP : va_P D vwCl (flat [WX6 cy h0 a0 s0_3, WX8 cy (a0 0) a1 s1, WX5 cy (a0 1) a2 s2_10]) H := by rw [es]; exact hP
    have hD : va_D A (flat [WX6 cy h0 a0 s0_3, WX8 cy (a0 0) a1 s1, WX5 cy (a0 1) a2 s2_10]) := by rw [es]; exact hD
    clear es
    refine lv_aload_n hx hb dX6_readEnd_106 rfl (lv_at hl 0 rfl) ?_
    refine va_get (D := D) (ci := 6) (v := .ref (a0 0)) (C := RX6) (T := TX6) (N := 6) hx hb hts hinX6 hown hK hP 0 rfl rfl 0 (by decide) (hts (.fieldLink RX6 22 "KneeBench$SeasonText" "tokens" "LKneeBench$Tokens;") (List.mem_of_getElem? (i := 2) rfl)) (fun _ h9 => h9) rfl dX6_readEnd_107 ?_
    obtain ⟨r11, hr11, h⟩ := bd_elim h
    refine ca_z (w' := [WX6 cy h0 a0 s0_3, WX8 cy (a0 0) a1 r11.2, WX5 cy (a0 1) a2 s2_10]) (rn_V (As := []) (rest := []) ⟨hx, hb, hml, hown, hts⟩ (kX8_advance l D cy (a0 0) a1 s1 r11 hr11 H.size) (cwV 0 hts gX6_readEnd_X8_advance rfl rfl rfl (by decide +kernel) ⟨Nat.le_of_ble_eq_true rfl, Nat.le_of_ble_eq_true rfl⟩) hK hN hP hD [1] rfl rfl (ci := 8) (q0 := 2) rfl rfl rfl rfl hl.1 rfl (Nat.le_of_ble_eq_true rfl) dX6_readEnd_110 ⟨Nat.le_refl 0, Nat.le_refl 0⟩) hP hD hS hA [1] ⟨rfl, rfl, rfl, rfl⟩ (fun b12 H locs hP hD hS => ?_)
    exact hret 113 H locs ls (r11.1, s0_3, r11.2, s2_10) (Option.some.inj h) hP hD hS b12 dX6_readEnd_113
  · replace h := (if_pos c1).symm.trans h
    refine lv_aload_n hx hb dX6_readEnd_7 rfl (lv_at hl 0 rfl) ?_
    refine va_get (D := D) (ci := 6) (v := .ref (a0 0)) (C := RX6) (T := TX6) (N := 6) hx hb hts hinX6 hown hK hP 0 rfl rfl 0 (by decide) (hts (.fieldLink RX6 22 "KneeBench$SeasonText" "tokens" "LKneeBench$Tokens;") (List.mem_of_getElem? (i := 2) rfl)) (fun _ h9 => h9) rfl dX6_readEnd_8 ?_
    refine lv_iconst (v := 2) hx hb dX6_readEnd_11 (by decide) ?_
    obtain ⟨r13, hr13, h⟩ := lt_elim h
    refine ca_z (w' := [WX6 cy h0 a0 s0, WX8 cy (a0 0) a1 r13.2, WX5 cy (a0 1) a2 s2]) (rn_V (As := [.int (2 : Int32)]) (rest := []) ⟨hx, hb, hml, hown, hts⟩ (kX8_fail l D cy (a0 0) a1 s1 (2 : Int32) r13 hr13.symm H.size) (cwV 1 hts gX6_readEnd_X8_fail rfl rfl rfl (by decide +kernel) ⟨Nat.le_of_ble_eq_true rfl, Nat.le_of_ble_eq_true rfl⟩) hK hN hP hD [1] rfl rfl (ci := 8) (q0 := 2) rfl rfl rfl rfl hl.1 rfl (Nat.le_of_ble_eq_true rfl) dX6_readEnd_12 ⟨Nat.le_refl 0, Nat.le_refl 0⟩) hP hD hS hA [1] ⟨rfl, rfl, rfl, rfl⟩ (fun b14 H locs hP hD hS => ?_)
    exact hret 15 H locs ls (r13.1, s0, r13.2, s2) (Option.some.inj h) hP hD hS b14 dX6_readEnd_15
theorem dX6_isStep_0 : decode cX6_isStep 0 = .ok (.iload_n 0, 1) := by decide +kernel
theorem dX6_isStep_1 : decode cX6_isStep 1 = .ok (.bipush 14, 2) := by decide +kernel
theorem dX6_isStep_3 : decode cX6_isStep 3 = .ok (.if_icmp .lt 43, 3) := by decide +kernel
theorem dX6_isStep_6 : decode cX6_isStep 6 = .ok (.iload_n 0, 1) := by decide +kernel
theorem dX6_isStep_7 : decode cX6_isStep 7 = .ok (.bipush 29, 2) := by decide +kernel
theorem dX6_isStep_9 : decode cX6_isStep 9 = .ok (.if_icmp .gt 37, 3) := by decide +kernel
theorem dX6_isStep_12 : decode cX6_isStep 12 = .ok (.iload_n 0, 1) := by decide +kernel
theorem dX6_isStep_13 : decode cX6_isStep 13 = .ok (.bipush 19, 2) := by decide +kernel
theorem dX6_isStep_15 : decode cX6_isStep 15 = .ok (.if_icmp .eq 31, 3) := by decide +kernel
theorem dX6_isStep_18 : decode cX6_isStep 18 = .ok (.iload_n 0, 1) := by decide +kernel
theorem dX6_isStep_19 : decode cX6_isStep 19 = .ok (.bipush 24, 2) := by decide +kernel
theorem dX6_isStep_21 : decode cX6_isStep 21 = .ok (.if_icmp .eq 25, 3) := by decide +kernel
theorem dX6_isStep_24 : decode cX6_isStep 24 = .ok (.iload_n 0, 1) := by decide +kernel
theorem dX6_isStep_25 : decode cX6_isStep 25 = .ok (.bipush 25, 2) := by decide +kernel
theorem dX6_isStep_27 : decode cX6_isStep 27 = .ok (.if_icmp .eq 19, 3) := by decide +kernel
theorem dX6_isStep_30 : decode cX6_isStep 30 = .ok (.iload_n 0, 1) := by decide +kernel
theorem dX6_isStep_31 : decode cX6_isStep 31 = .ok (.bipush 26, 2) := by decide +kernel
theorem dX6_isStep_33 : decode cX6_isStep 33 = .ok (.if_icmp .eq 13, 3) := by decide +kernel
theorem dX6_isStep_36 : decode cX6_isStep 36 = .ok (.iload_n 0, 1) := by decide +kernel
theorem dX6_isStep_37 : decode cX6_isStep 37 = .ok (.bipush 28, 2) := by decide +kernel
theorem dX6_isStep_39 : decode cX6_isStep 39 = .ok (.if_icmp .eq 7, 3) := by decide +kernel
theorem dX6_isStep_42 : decode cX6_isStep 42 = .ok (.iconst 1, 1) := by decide +kernel
theorem dX6_isStep_43 : decode cX6_isStep 43 = .ok (.goto 4, 3) := by decide +kernel
theorem dX6_isStep_46 : decode cX6_isStep 46 = .ok (.iconst 0, 1) := by decide +kernel
theorem dX6_isStep_47 : decode cX6_isStep 47 = .ok (.ireturn, 1) := by decide +kernel
abbrev rmX6_isStep : Room := { frames := 0, cells := 0, slots := 0, locals := 0 }
set_option maxHeartbeats 4000000 in
set_option maxRecDepth 100000 in
theorem kX6_isStep (l : Launch) (D : va_G) (cy : Nat → ClassId) (p1 : Int32) (res : Int32) (h : fX6_isStep p1 = res) : CZ l D cy yX6_isStep wsX6_isStep rmX6_isStep [.int p1] (flat []) (flat []) res := by
  refine CZ.of (cc := cX6_isStep) (maxL := 1) (by decide) rfl (Nat.le_of_ble_eq_true rfl) ?_
  intro p e s m args below meth c A QQ ls E hr
  obtain ⟨hx, hb, hml, hown, hts, hK, hN, hP, hD, hA, hl⟩ := E
  have hret : ∀ (pc : Nat) (H : Heap) (locs : List Loc) (ls : Array Slot) (u : Int32), u = res → va_P D vwCl (flat []) H → va_D A (flat []) → va_S A s.heap H locs → isb u = true → decode cX6_isStep pc = .ok (.ireturn, 1) → W p l e rmX6_isStep s m args below meth c H locs 0 0 QQ (F0 m pc ls [.int u]) := by
    intro pc H locs ls u hu hP hD hS hz hd; subst hu; exact hr pc H locs ls _ rfl hP hD hS hz hd
  clear hr
  have hl : lv_has ls 1 [(0, .int p1)] := hl
  unfold fX6_isStep at h
  suffices key : ∀ (H : Heap) (locs : List Loc), va_P D vwCl (flat []) H → va_S A s.heap H locs → W p l e rmX6_isStep s m args below meth c H locs 0 0 QQ (F0 m 0 ls []) from key _ _ hP va_S.rf
  clear hP
  intro H locs hP hS
  refine lv_iload_n hx hb dX6_isStep_0 rfl (lv_at hl 0 rfl) ?_
  refine lv_bipush (v := 14) hx hb dX6_isStep_1 (by decide) ?_
  refine lv_icmp_lt (tgt := 46) hx hb dX6_isStep_3 (by decide) (fun c1 => ?_) (fun c1 => ?_)
  · replace h := (if_pos c1).symm.trans h
    refine lv_iconst (v := 0) hx hb dX6_isStep_46 (by decide) ?_
    exact hret 47 H locs ls (0 : Int32) h hP hD hS (show isb (0 : Int32) = true by decide) dX6_isStep_47
  · replace h := (if_neg c1).symm.trans h
    refine lv_iload_n hx hb dX6_isStep_6 rfl (lv_at hl 0 rfl) ?_
    refine lv_bipush (v := 29) hx hb dX6_isStep_7 (by decide) ?_
    refine lv_icmp_gt (tgt := 46) hx hb dX6_isStep_9 (by decide) (fun c2 => ?_) (fun c2 => ?_)
    · replace h := (if_pos c2).symm.trans h
      refine lv_iconst (v := 0) hx hb dX6_isStep_46 (by decide) ?_
      exact hret 47 H locs ls (0 : Int32) h hP hD hS (show isb (0 : Int32) = true by decide) dX6_isStep_47
    · replace h := (if_neg c2).symm.trans h
      refine lv_iload_n hx hb dX6_isStep_12 rfl (lv_at hl 0 rfl) ?_
      refine lv_bipush (v := 19) hx hb dX6_isStep_13 (by decide) ?_
      refine lv_icmp_eq (tgt := 46) hx hb dX6_isStep_15 (by decide) (fun c3 => ?_) (fun c3 => ?_)
      · replace h := (if_pos c3).symm.trans h
        refine lv_iconst (v := 0) hx hb dX6_isStep_46 (by decide) ?_
        exact hret 47 H locs ls (0 : Int32) h hP hD hS (show isb (0 : Int32) = true by decide) dX6_isStep_47
      · replace h := (if_neg c3).symm.trans h
        refine lv_iload_n hx hb dX6_isStep_18 rfl (lv_at hl 0 rfl) ?_
        refine lv_bipush (v := 24) hx hb dX6_isStep_19 (by decide) ?_
        refine lv_icmp_eq (tgt := 46) hx hb dX6_isStep_21 (by decide) (fun c4 => ?_) (fun c4 => ?_)
        · replace h := (if_pos c4).symm.trans h
          refine lv_iconst (v := 0) hx hb dX6_isStep_46 (by decide) ?_
          exact hret 47 H locs ls (0 : Int32) h hP hD hS (show isb (0 : Int32) = true by decide) dX6_isStep_47
        · replace h := (if_neg c4).symm.trans h
          refine lv_iload_n hx hb dX6_isStep_24 rfl (lv_at hl 0 rfl) ?_
          refine lv_bipush (v := 25) hx hb dX6_isStep_25 (by decide) ?_
          refine lv_icmp_eq (tgt := 46) hx hb dX6_isStep_27 (by decide) (fun c5 => ?_) (fun c5 => ?_)
          · replace h := (if_pos c5).symm.trans h
            refine lv_iconst (v := 0) hx hb dX6_isStep_46 (by decide) ?_
            exact hret 47 H locs ls (0 : Int32) h hP hD hS (show isb (0 : Int32) = true by decide) dX6_isStep_47
          · replace h := (if_neg c5).symm.trans h
            refine lv_iload_n hx hb dX6_isStep_30 rfl (lv_at hl 0 rfl) ?_
            refine lv_bipush (v := 26) hx hb dX6_isStep_31 (by decide) ?_
            refine lv_icmp_eq (tgt := 46) hx hb dX6_isStep_33 (by decide) (fun c6 => ?_) (fun c6 => ?_)
            · replace h := (if_pos c6).symm.trans h
              refine lv_iconst (v := 0) hx hb dX6_isStep_46 (by decide) ?_
              exact hret 47 H locs ls (0 : Int32) h hP hD hS (show isb (0 : Int32) = true by decide) dX6_isStep_47
            · replace h := (if_neg c6).symm.trans h
              refine lv_iload_n hx hb dX6_isStep_36 rfl (lv_at hl 0 rfl) ?_
              refine lv_bipush (v := 28) hx hb dX6_isStep_37 (by decide) ?_
              refine lv_icmp_eq (tgt := 46) hx hb dX6_isStep_39 (by decide) (fun c7 => ?_) (fun c7 => ?_)
              · replace h := (if_pos c7).symm.trans h
                refine lv_iconst (v := 0) hx hb dX6_isStep_46 (by decide) ?_
                exact hret 47 H locs ls (0 : Int32) h hP hD hS (show isb (0 : Int32) = true by decide) dX6_isStep_47
              · replace h := (if_neg c7).symm.trans h
                refine lv_iconst (v := 1) hx hb dX6_isStep_42 (by decide) ?_
                refine lv_goto (tgt := 47) hx hb dX6_isStep_43 (by decide) ?_
                exact hret 47 H locs ls (1 : Int32) h hP hD hS (show isb (1 : Int32) = true by decide) dX6_isStep_47
set_option maxRecDepth 20000 in
theorem ggX6_readStep_X6_isStep : GoodIn wsX6_readStep wsX6_isStep := goodIn_r _ [9] (by decide +kernel) (by decide +kernel)
set_option maxRecDepth 20000 in
theorem gX6_readStep_X6_isStep : GoodIn wsX6_readStep (va_wsS RX6 86 yX6_isStep wsX6_isStep) := goodIn_app (goodIn_of _ (by decide +kernel)) ggX6_readStep_X6_isStep
set_option maxRecDepth 20000 in
theorem ggX6_readStep_X8_fail : GoodIn wsX6_readStep wsX8_fail := goodIn_r _ [14, 15, 16, 17, 52, 53, 54, 55, 56, 57, 58, 59, 60, 61, 62, 63, 64, 65] (by decide +kernel) (by decide +kernel)
set_option maxRecDepth 20000 in
theorem gX6_readStep_X8_fail : GoodIn wsX6_readStep (wsV RX6 71 RX8 yX8_fail wsX8_fail) := goodIn_app (goodIn_of _ (by decide +kernel)) ggX6_readStep_X8_fail
set_option maxRecDepth 20000 in
theorem ggX6_readStep_X8_advance : GoodIn wsX6_readStep wsX8_advance := goodIn_r _ [21, 22, 16, 23, 24, 25, 26, 27, 28, 29, 30, 31, 13, 32, 33, 34, 35, 36, 37, 38, 39, 40, 41, 42, 43, 44, 45, 11, 12, 14, 15, 17, 52, 53, 54, 55, 56, 57, 58, 59, 60, 61, 62, 63, 64, 65] (by decide +kernel) (by decide +kernel)
set_option maxRecDepth 20000 in
theorem gX6_readStep_X8_advance : GoodIn wsX6_readStep (wsV RX6 83 RX8 yX8_advance wsX8_advance) := goodIn_app (goodIn_of _ (by decide +kernel)) ggX6_readStep_X8_advance
theorem dX6_readStep_0 : decode cX6_readStep 0 = .ok (.aload_n 0, 1) := by decide +kernel
theorem dX6_readStep_1 : decode cX6_readStep 1 = .ok (.getfield 22, 3) := by decide +kernel
theorem dX6_readStep_4 : decode cX6_readStep 4 = .ok (.getfield 49, 3) := by decide +kernel
theorem dX6_readStep_7 : decode cX6_readStep 7 = .ok (.istore_n 1, 1) := by decide +kernel
theorem dX6_readStep_8 : decode cX6_readStep 8 = .ok (.iload_n 1, 1) := by decide +kernel
theorem dX6_readStep_9 : decode cX6_readStep 9 = .ok (.invokestatic 86, 3) := by decide +kernel
theorem dX6_readStep_12 : decode cX6_readStep 12 = .ok (.ifCond .ne 12, 3) := by decide +kernel
theorem dX6_readStep_15 : decode cX6_readStep 15 = .ok (.aload_n 0, 1) := by decide +kernel
theorem dX6_readStep_16 : decode cX6_readStep 16 = .ok (.getfield 22, 3) := by decide +kernel
theorem dX6_readStep_19 : decode cX6_readStep 19 = .ok (.iconst 2, 1) := by decide +kernel
theorem dX6_readStep_20 : decode cX6_readStep 20 = .ok (.invokevirtual 71, 3) := by decide +kernel
theorem dX6_readStep_23 : decode cX6_readStep 23 = .ok (.ireturn, 1) := by decide +kernel
theorem dX6_readStep_24 : decode cX6_readStep 24 = .ok (.aload_n 0, 1) := by decide +kernel
theorem dX6_readStep_25 : decode cX6_readStep 25 = .ok (.getfield 26, 3) := by decide +kernel
theorem dX6_readStep_28 : decode cX6_readStep 28 = .ok (.getfield 89, 3) := by decide +kernel
theorem dX6_readStep_31 : decode cX6_readStep 31 = .ok (.bipush 30, 2) := by decide +kernel
theorem dX6_readStep_33 : decode cX6_readStep 33 = .ok (.if_icmp .lt 13, 3) := by decide +kernel
theorem dX6_readStep_36 : decode cX6_readStep 36 = .ok (.aload_n 0, 1) := by decide +kernel
theorem dX6_readStep_37 : decode cX6_readStep 37 = .ok (.getfield 22, 3) := by decide +kernel
theorem dX6_readStep_40 : decode cX6_readStep 40 = .ok (.bipush 6, 2) := by decide +kernel
theorem dX6_readStep_42 : decode cX6_readStep 42 = .ok (.invokevirtual 71, 3) := by decide +kernel
theorem dX6_readStep_45 : decode cX6_readStep 45 = .ok (.ireturn, 1) := by decide +kernel
theorem dX6_readStep_46 : decode cX6_readStep 46 = .ok (.aload_n 0, 1) := by decide +kernel
theorem dX6_readStep_47 : decode cX6_readStep 47 = .ok (.aload_n 0, 1) := by decide +kernel
theorem dX6_readStep_48 : decode cX6_readStep 48 = .ok (.getfield 26, 3) := by decide +kernel
theorem dX6_readStep_51 : decode cX6_readStep 51 = .ok (.getfield 74, 3) := by decide +kernel
theorem dX6_readStep_54 : decode cX6_readStep 54 = .ok (.putfield 19, 3) := by decide +kernel
theorem dX6_readStep_57 : decode cX6_readStep 57 = .ok (.iload_n 1, 1) := by decide +kernel
theorem dX6_readStep_58 : decode cX6_readStep 58 = .ok (.bipush 23, 2) := by decide +kernel
theorem dX6_readStep_60 : decode cX6_readStep 60 = .ok (.if_icmp .eq 9, 3) := by decide +kernel
theorem dX6_readStep_63 : decode cX6_readStep 63 = .ok (.iload_n 1, 1) := by decide +kernel
theorem dX6_readStep_64 : decode cX6_readStep 64 = .ok (.bipush 27, 2) := by decide +kernel
theorem dX6_readStep_66 : decode cX6_readStep 66 = .ok (.if_icmp .ne 44, 3) := by decide +kernel
theorem dX6_readStep_69 : decode cX6_readStep 69 = .ok (.aload_n 0, 1) := by decide +kernel
theorem dX6_readStep_70 : decode cX6_readStep 70 = .ok (.getfield 15, 3) := by decide +kernel
theorem dX6_readStep_73 : decode cX6_readStep 73 = .ok (.iconst 3, 1) := by decide +kernel
theorem dX6_readStep_74 : decode cX6_readStep 74 = .ok (.if_icmp .lt 13, 3) := by decide +kernel
theorem dX6_readStep_77 : decode cX6_readStep 77 = .ok (.aload_n 0, 1) := by decide +kernel
theorem dX6_readStep_78 : decode cX6_readStep 78 = .ok (.getfield 22, 3) := by decide +kernel
theorem dX6_readStep_81 : decode cX6_readStep 81 = .ok (.bipush 7, 2) := by decide +kernel
theorem dX6_readStep_83 : decode cX6_readStep 83 = .ok (.invokevirtual 71, 3) := by decide +kernel
theorem dX6_readStep_86 : decode cX6_readStep 86 = .ok (.ireturn, 1) := by decide +kernel
theorem dX6_readStep_87 : decode cX6_readStep 87 = .ok (.aload_n 0, 1) := by decide +kernel
theorem dX6_readStep_88 : decode cX6_readStep 88 = .ok (.getfield 9, 3) := by decide +kernel
theorem dX6_readStep_91 : decode cX6_readStep 91 = .ok (.aload_n 0, 1) := by decide +kernel
theorem dX6_readStep_92 : decode cX6_readStep 92 = .ok (.getfield 15, 3) := by decide +kernel
theorem dX6_readStep_95 : decode cX6_readStep 95 = .ok (.aload_n 0, 1) := by decide +kernel
theorem dX6_readStep_96 : decode cX6_readStep 96 = .ok (.getfield 19, 3) := by decide +kernel
theorem dX6_readStep_99 : decode cX6_readStep 99 = .ok (.iastore, 1) := by decide +kernel
theorem dX6_readStep_100 : decode cX6_readStep 100 = .ok (.aload_n 0, 1) := by decide +kernel
theorem dX6_readStep_101 : decode cX6_readStep 101 = .ok (.dup, 1) := by decide +kernel
theorem dX6_readStep_102 : decode cX6_readStep 102 = .ok (.getfield 15, 3) := by decide +kernel
theorem dX6_readStep_105 : decode cX6_readStep 105 = .ok (.iconst 1, 1) := by decide +kernel
theorem dX6_readStep_106 : decode cX6_readStep 106 = .ok (.iadd, 1) := by decide +kernel
theorem dX6_readStep_107 : decode cX6_readStep 107 = .ok (.putfield 15, 3) := by decide +kernel
theorem dX6_readStep_110 : decode cX6_readStep 110 = .ok (.aload_n 0, 1) := by decide +kernel
theorem dX6_readStep_111 : decode cX6_readStep 111 = .ok (.getfield 26, 3) := by decide +kernel
theorem dX6_readStep_114 : decode cX6_readStep 114 = .ok (.getfield 77, 3) := by decide +kernel
theorem dX6_readStep_117 : decode cX6_readStep 117 = .ok (.aload_n 0, 1) := by decide +kernel
theorem dX6_readStep_118 : decode cX6_readStep 118 = .ok (.getfield 19, 3) := by decide +kernel
theorem dX6_readStep_121 : decode cX6_readStep 121 = .ok (.iload_n 1, 1) := by decide +kernel
theorem dX6_readStep_122 : decode cX6_readStep 122 = .ok (.iastore, 1) := by decide +kernel
theorem dX6_readStep_123 : decode cX6_readStep 123 = .ok (.aload_n 0, 1) := by decide +kernel
theorem dX6_readStep_124 : decode cX6_readStep 124 = .ok (.getfield 26, 3) := by decide +kernel
theorem dX6_readStep_127 : decode cX6_readStep 127 = .ok (.dup, 1) := by decide +kernel
theorem dX6_readStep_128 : decode cX6_readStep 128 = .ok (.getfield 74, 3) := by decide +kernel
theorem dX6_readStep_131 : decode cX6_readStep 131 = .ok (.iconst 1, 1) := by decide +kernel
theorem dX6_readStep_132 : decode cX6_readStep 132 = .ok (.iadd, 1) := by decide +kernel
theorem dX6_readStep_133 : decode cX6_readStep 133 = .ok (.putfield 74, 3) := by decide +kernel
theorem dX6_readStep_136 : decode cX6_readStep 136 = .ok (.aload_n 0, 1) := by decide +kernel
theorem dX6_readStep_137 : decode cX6_readStep 137 = .ok (.getfield 26, 3) := by decide +kernel
theorem dX6_readStep_140 : decode cX6_readStep 140 = .ok (.dup, 1) := by decide +kernel
theorem dX6_readStep_141 : decode cX6_readStep 141 = .ok (.getfield 89, 3) := by decide +kernel
theorem dX6_readStep_144 : decode cX6_readStep 144 = .ok (.iconst 1, 1) := by decide +kernel
theorem dX6_readStep_145 : decode cX6_readStep 145 = .ok (.iadd, 1) := by decide +kernel
theorem dX6_readStep_146 : decode cX6_readStep 146 = .ok (.putfield 89, 3) := by decide +kernel
theorem dX6_readStep_149 : decode cX6_readStep 149 = .ok (.aload_n 0, 1) := by decide +kernel
theorem dX6_readStep_150 : decode cX6_readStep 150 = .ok (.getfield 22, 3) := by decide +kernel
theorem dX6_readStep_153 : decode cX6_readStep 153 = .ok (.invokevirtual 83, 3) := by decide +kernel
theorem dX6_readStep_156 : decode cX6_readStep 156 = .ok (.ireturn, 1) := by decide +kernel
abbrev rmX6_readStep : Room := { frames := 3, cells := 0, slots := 0, locals := 65 }
set_option maxHeartbeats 4000000 in
set_option maxRecDepth 100000 in
theorem kX6_readStep (l : Launch) (D : va_G) (cy : Nat → ClassId) (h0 : Nat) (a0 : Nat → Nat) (a1 : Nat → Nat) (a2 : Nat → Nat) (s0 : Rc) (s1 : Rc) (s2 : Rc) (res : Int32 × Rc × Rc × Rc) (h : fX6_readStep s0 s1 s2 = some res) : CZ l D cy yX6_readStep wsX6_readStep rmX6_readStep [.ref h0] (flat [WX6 cy h0 a0 s0, WX8 cy (a0 0) a1 s1, WX5 cy (a0 1) a2 s2]) (flat [WX6 cy h0 a0 res.2.1, WX8 cy (a0 0) a1 res.2.2.1, WX5 cy (a0 1) a2 res.2.2.2]) res.1 := by
  refine CZ.of (cc := cX6_readStep) (maxL := 2) (by decide) rfl (Nat.le_of_ble_eq_true rfl) ?_
  intro p e s m args below meth c A QQ ls E hr
  obtain ⟨hx, hb, hml, hown, hts, hK, hN, hP, hD, hA, hl⟩ := E
  have hret : ∀ (pc : Nat) (H : Heap) (locs : List Loc) (ls : Array Slot) (u : Int32 × Rc × Rc × Rc), u = res → va_P D vwCl (flat [WX6 cy h0 a0 u.2.1, WX8 cy (a0 0) a1 u.2.2.1, WX5 cy (a0 1) a2 u.2.2.2]) H → va_D A (flat [WX6 cy h0 a0 u.2.1, WX8 cy (a0 0) a1 u.2.2.1, WX5 cy (a0 1) a2 u.2.2.2]) → va_S A s.heap H locs → isb u.1 = true → decode cX6_readStep pc = .ok (.ireturn, 1) → W p l e rmX6_readStep s m args below meth c H locs 0 0 QQ (F0 m pc ls [.int u.1]) := by
    intro pc H locs ls u hu hP hD hS hz hd; subst hu; exact hr pc H locs ls _ rfl hP hD hS hz hd
  clear hr
  have hl : lv_has ls 2 [(0, .ref h0)] := hl
  have hinX5 : ∀ w ∈ wsX50, w ∈ wsX6_readStep := fun _ h => List.mem_cons_of_mem _ (List.mem_append_right _ h)
  have hinX6 : ∀ w ∈ wsX60, w ∈ wsX6_readStep := fun _ h => List.mem_cons_of_mem _ (List.mem_append_left _ (List.mem_append_left _ (List.mem_append_right _ h)))
  have hinX8 : ∀ w ∈ wsX80, w ∈ wsX6_readStep := fun _ h => List.mem_cons_of_mem _ (List.mem_append_left _ (List.mem_append_right _ h))
  unfold fX6_readStep at h
  suffices key : ∀ (H : Heap) (locs : List Loc), va_P D vwCl (flat [WX6 cy h0 a0 s0, WX8 cy (a0 0) a1 s1, WX5 cy (a0 1) a2 s2]) H → va_S A s.heap H locs → W p l e rmX6_readStep s m args below meth c H locs 0 0 QQ (F0 m 0 ls []) from key _ _ hP va_S.rf
  clear hP
  intro H locs hP hS
  have J110 : ∀ (y110_1 : Int32) (t110_0 : Rc) (H : Heap) (locs : List Loc) (ls : Array Slot), lv_has ls 2 [(0, .ref h0), (1, .int y110_1)] → va_P D vwCl (flat [WX6 cy h0 a0 t110_0, WX8 cy (a0 0) a1 s1, WX5 cy (a0 1) a2 s2]) H → va_D A (flat [WX6 cy h0 a0 t110_0, WX8 cy (a0 0) a1 s1, WX5 cy (a0 1) a2 s2]) → va_S A s.heap H locs → fX6_readStep_J110 s1 s2 y110_1 t110_0 = some res → W p l e rmX6_readStep s m args below meth c H locs 0 0 QQ (F0 m 110 ls []) := by
    intro y110_1 t110_0 H locs ls hl hP hD hS h
    unfold fX6_readStep_J110 at h
    refine lv_aload_n hx hb dX6_readStep_110 rfl (lv_at hl 0 rfl) ?_
    refine va_get (D := D) (ci := 6) (v := .ref (a0 1)) (C := RX6) (T := TX6) (N := 6) hx hb hts hinX6 hown hK hP 0 rfl rfl 1 (by decide) (hts (.fieldLink RX6 26 "KneeBench$SeasonText" "draft" "LKneeBench$Season;") (List.mem_of_getElem? (i := 2) rfl)) (fun _ h9 => h9) rfl dX6_readStep_111 ?_
    refine va_getN (D := D) (ci := 5) (v := .ref (a2 0)) (C := RX5) (T := TX5) (N := 8) hx hb hts hinX5 hown hK hP 5 rfl rfl 0 (by decide) (NW.fld hN 26 rfl _) (fun _ h9 => h9) rfl dX6_readStep_114 ?_
    refine lv_aload_n hx hb dX6_readStep_117 rfl (lv_at hl 0 rfl) ?_
    refine va_get (D := D) (ci := 6) (v := .int (gi t110_0 5)) (C := RX6) (T := TX6) (N := 6) hx hb hts hinX6 hown hK hP 0 rfl rfl 5 (by decide) (hts (.fieldLink RX6 19 "KneeBench$SeasonText" "at" "I") (List.mem_of_getElem? (i := 3) rfl)) (fun _ h9 => h9) rfl dX6_readStep_118 ?_
    refine lv_iload_n hx hb dX6_readStep_121 rfl (lv_at hl 1 rfl) ?_
    obtain ⟨g1, h⟩ := gd_elim h
    obtain ⟨s2_2, es, h⟩ := lt_elim h
    refine va_iast hx hb hK hP hD hS 6 1 rfl rfl (inb_in g1) dX6_readStep_122 (fun H locs hP hD hS => ?_)
    have hP : va_P D vwCl (flat [WX6 cy h0 a0 t110_0, WX8 cy (a0 0) a1 s1, WX5 cy (a0 1) a2 s2_2]) H := by rw [es]; exact hP
    have hD : va_D A (flat [WX6 cy h0 a0 t110_0, WX8 cy (a0 0) a1 s1, WX5 cy (a0 1) a2 s2_2]) := by rw [es]; exact hD
    clear es
    refine lv_aload_n hx hb dX6_readStep_123 rfl (lv_at hl 0 rfl) ?_
    refine va_get (D := D) (ci := 6) (v := .ref (a0 1)) (C := RX6) (T := TX6) (N := 6) hx hb hts hinX6 hown hK hP 0 rfl rfl 1 (by decide) (hts (.fieldLink RX6 26 "KneeBench$SeasonText" "draft" "LKneeBench$Season;") (List.mem_of_getElem? (i := 2) rfl)) (fun _ h9 => h9) rfl dX6_readStep_124 ?_
    refine lv_dup hx hb dX6_readStep_127 rfl ?_
    refine va_getN (D := D) (ci := 5) (v := .int (gi s2_2 5)) (C := RX5) (T := TX5) (N := 8) hx hb hts hinX5 hown hK hP 5 rfl rfl 5 (by decide) (NW.fld hN 36 rfl _) (fun _ h9 => h9) rfl dX6_readStep_128 ?_
    refine lv_iconst (v := 1) hx hb dX6_readStep_131 (by decide) ?_
    refine lv_iadd hx hb dX6_readStep_132 ?_
    obtain ⟨s2_3, es, h⟩ := lt_elim h
    refine va_putN (D := D) (ci := 5) (v := .int ((gi s2_2 5) + (1 : Int32))) (ty := .int) (C := RX5) (T := TX5) (N := 8) hx hb hts hinX5 tyX5 tyX5_ok nmX5 hown hK hP hD hS 5 rfl rfl 5 (by decide) (NW.fld hN 36 rfl _) (fun _ h9 => h9) rfl (by decide +kernel) rfl rfl (Nat.le_of_ble_eq_true rfl) dX6_readStep_133 (fun H locs hP hD hS => ?_)
    have hP : va_P D vwCl (flat [WX6 cy h0 a0 t110_0, WX8 cy (a0 0) a1 s1, WX5 cy (a0 1) a2 s2_3]) H := by rw [es]; exact hP
    have hD : va_D A (flat [WX6 cy h0 a0 t110_0, WX8 cy (a0 0) a1 s1, WX5 cy (a0 1) a2 s2_3]) := by rw [es]; exact hD
    clear es
    refine lv_aload_n hx hb dX6_readStep_136 rfl (lv_at hl 0 rfl) ?_
    refine va_get (D := D) (ci := 6) (v := .ref (a0 1)) (C := RX6) (T := TX6) (N := 6) hx hb hts hinX6 hown hK hP 0 rfl rfl 1 (by decide) (hts (.fieldLink RX6 26 "KneeBench$SeasonText" "draft" "LKneeBench$Season;") (List.mem_of_getElem? (i := 2) rfl)) (fun _ h9 => h9) rfl dX6_readStep_137 ?_
    refine lv_dup hx hb dX6_readStep_140 rfl ?_
    refine va_getN (D := D) (ci := 5) (v := .int (gi s2_3 6)) (C := RX5) (T := TX5) (N := 8) hx hb hts hinX5 hown hK hP 5 rfl rfl 6 (by decide) (NW.fld hN 37 rfl _) (fun _ h9 => h9) rfl dX6_readStep_141 ?_
    refine lv_iconst (v := 1) hx hb dX6_readStep_144 (by decide) ?_
    refine lv_iadd hx hb dX6_readStep_145 ?_
    obtain ⟨s2_4, es, h⟩ := lt_elim h
    refine va_putN (D := D) (ci := 5) (v := .int ((gi s2_3 6) + (1 : Int32))) (ty := .int) (C := RX5) (T := TX5) (N := 8) hx hb hts hinX5 tyX5 tyX5_ok nmX5 hown hK hP hD hS 5 rfl rfl 6 (by decide) (NW.fld hN 37 rfl _) (fun _ h9 => h9) rfl (by decide +kernel) rfl rfl (Nat.le_of_ble_eq_true rfl) dX6_readStep_146 (fun H locs hP hD hS => ?_)
    have hP : va_P D vwCl (flat [WX6 cy h0 a0 t110_0, WX8 cy (a0 0) a1 s1, WX5 cy (a0 1) a2 s2_4]) H := by rw [es]; exact hP
    have hD : va_D A (flat [WX6 cy h0 a0 t110_0, WX8 cy (a0 0) a1 s1, WX5 cy (a0 1) a2 s2_4]) := by rw [es]; exact hD
    clear es
    refine lv_aload_n hx hb dX6_readStep_149 rfl (lv_at hl 0 rfl) ?_
    refine va_get (D := D) (ci := 6) (v := .ref (a0 0)) (C := RX6) (T := TX6) (N := 6) hx hb hts hinX6 hown hK hP 0 rfl rfl 0 (by decide) (hts (.fieldLink RX6 22 "KneeBench$SeasonText" "tokens" "LKneeBench$Tokens;") (List.mem_of_getElem? (i := 1) rfl)) (fun _ h9 => h9) rfl dX6_readStep_150 ?_
    obtain ⟨r5, hr5, h⟩ := bd_elim h
    refine ca_z (w' := [WX6 cy h0 a0 t110_0, WX8 cy (a0 0) a1 r5.2, WX5 cy (a0 1) a2 s2_4]) (rn_V (As := []) (rest := []) ⟨hx, hb, hml, hown, hts⟩ (kX8_advance l D cy (a0 0) a1 s1 r5 hr5 H.size) (cwV 0 hts gX6_readStep_X8_advance rfl rfl rfl (by decide +kernel) ⟨Nat.le_of_ble_eq_true rfl, Nat.le_of_ble_eq_true rfl⟩) hK hN hP hD [1] rfl rfl (ci := 8) (q0 := 2) rfl rfl rfl rfl hl.1 rfl (Nat.le_of_ble_eq_true rfl) dX6_readStep_153 ⟨Nat.le_refl 0, Nat.le_refl 0⟩) hP hD hS hA [1] ⟨rfl, rfl, rfl, rfl⟩ (fun b6 H locs hP hD hS => ?_)
    exact hret 156 H locs ls (r5.1, t110_0, r5.2, s2_4) (Option.some.inj h) hP hD hS b6 dX6_readStep_156
  have J69 : ∀ (y69_1 : Int32) (t69_0 : Rc) (H : Heap) (locs : List Loc) (ls : Array Slot), lv_has ls 2 [(0, .ref h0), (1, .int y69_1)] → va_P D vwCl (flat [WX6 cy h0 a0 t69_0, WX8 cy (a0 0) a1 s1, WX5 cy (a0 1) a2 s2]) H → va_D A (flat [WX6 cy h0 a0 t69_0, WX8 cy (a0 0) a1 s1, WX5 cy (a0 1) a2 s2]) → va_S A s.heap H locs → fX6_readStep_J69 s1 s2 y69_1 t69_0 = some res → W p l e rmX6_readStep s m args below meth c H locs 0 0 QQ (F0 m 69 ls []) := by
    intro y69_1 t69_0 H locs ls hl hP hD hS h
    unfold fX6_readStep_J69 at h
    refine lv_aload_n hx hb dX6_readStep_69 rfl (lv_at hl 0 rfl) ?_
    refine va_get (D := D) (ci := 6) (v := .int (gi t69_0 4)) (C := RX6) (T := TX6) (N := 6) hx hb hts hinX6 hown hK hP 0 rfl rfl 4 (by decide) (hts (.fieldLink RX6 15 "KneeBench$SeasonText" "depth" "I") (List.mem_of_getElem? (i := 4) rfl)) (fun _ h9 => h9) rfl dX6_readStep_70 ?_
    refine lv_iconst (v := 3) hx hb dX6_readStep_73 (by decide) ?_
    refine lv_icmp_lt (tgt := 87) hx hb dX6_readStep_74 (by decide) (fun c7 => ?_) (fun c7 => ?_)
    · replace h := (if_pos c7).symm.trans h
      refine lv_aload_n hx hb dX6_readStep_87 rfl (lv_at hl 0 rfl) ?_
      refine va_get (D := D) (ci := 6) (v := .ref (a0 3)) (C := RX6) (T := TX6) (N := 6) hx hb hts hinX6 hown hK hP 0 rfl rfl 3 (by decide) (hts (.fieldLink RX6 9 "KneeBench$SeasonText" "open" "[I") (List.mem_of_getElem? (i := 5) rfl)) (fun _ h9 => h9) rfl dX6_readStep_88 ?_
      refine lv_aload_n hx hb dX6_readStep_91 rfl (lv_at hl 0 rfl) ?_
      refine va_get (D := D) (ci := 6) (v := .int (gi t69_0 4)) (C := RX6) (T := TX6) (N := 6) hx hb hts hinX6 hown hK hP 0 rfl rfl 4 (by decide) (hts (.fieldLink RX6 15 "KneeBench$SeasonText" "depth" "I") (List.mem_of_getElem? (i := 4) rfl)) (fun _ h9 => h9) rfl dX6_readStep_92 ?_
      refine lv_aload_n hx hb dX6_readStep_95 rfl (lv_at hl 0 rfl) ?_
      refine va_get (D := D) (ci := 6) (v := .int (gi t69_0 5)) (C := RX6) (T := TX6) (N := 6) hx hb hts hinX6 hown hK hP 0 rfl rfl 5 (by decide) (hts (.fieldLink RX6 19 "KneeBench$SeasonText" "at" "I") (List.mem_of_getElem? (i := 3) rfl)) (fun _ h9 => h9) rfl dX6_readStep_96 ?_
      obtain ⟨g8, h⟩ := gd_elim h
      obtain ⟨s0_9, es, h⟩ := lt_elim h
      refine va_iast hx hb hK hP hD hS 1 1 rfl rfl (inb_in g8) dX6_readStep_99 (fun H locs hP hD hS => ?_)
      have hP : va_P D vwCl (flat [WX6 cy h0 a0 s0_9, WX8 cy (a0 0) a1 s1, WX5 cy (a0 1) a2 s2]) H := by rw [es]; exact hP
      have hD : va_D A (flat [WX6 cy h0 a0 s0_9, WX8 cy (a0 0) a1 s1, WX5 cy (a0 1) a2 s2]) := by rw [es]; exact hD
      clear es
      refine lv_aload_n hx hb dX6_readStep_100 rfl (lv_at hl 0 rfl) ?_
      refine lv_dup hx hb dX6_readStep_101 rfl ?_
      refine va_get (D := D) (ci := 6) (v := .int (gi s0_9 4)) (C := RX6) (T := TX6) (N := 6) hx hb hts hinX6 hown hK hP 0 rfl rfl 4 (by decide) (hts (.fieldLink RX6 15 "KneeBench$SeasonText" "depth" "I") (List.mem_of_getElem? (i := 4) rfl)) (fun _ h9 => h9) rfl dX6_readStep_102 ?_
      refine lv_iconst (v := 1) hx hb dX6_readStep_105 (by decide) ?_
      refine lv_iadd hx hb dX6_readStep_106 ?_
      obtain ⟨s0_10, es, h⟩ := lt_elim h
      refine va_put (D := D) (ci := 6) (v := .int ((gi s0_9 4) + (1 : Int32))) (ty := .int) (C := RX6) (T := TX6) (N := 6) hx hb hts hinX6 tyX6 tyX6_ok nmX6 hown hK hP hD hS 0 rfl rfl 4 (by decide) (hts (.fieldLink RX6 15 "KneeBench$SeasonText" "depth" "I") (List.mem_of_getElem? (i := 4) rfl)) (fun _ h9 => h9) rfl (by decide +kernel) rfl rfl (Nat.le_of_ble_eq_true rfl) dX6_readStep_107 (fun H locs hP hD hS => ?_)
      have hP : va_P D vwCl (flat [WX6 cy h0 a0 s0_10, WX8 cy (a0 0) a1 s1, WX5 cy (a0 1) a2 s2]) H := by rw [es]; exact hP
      have hD : va_D A (flat [WX6 cy h0 a0 s0_10, WX8 cy (a0 0) a1 s1, WX5 cy (a0 1) a2 s2]) := by rw [es]; exact hD
      clear es
      exact J110 y69_1 s0_10 H locs ls (lv_sub hl [0, 1] rfl) hP hD hS h
    · replace h := (if_neg c7).symm.trans h
      refine lv_aload_n hx hb dX6_readStep_77 rfl (lv_at hl 0 rfl) ?_
      refine va_get (D := D) (ci := 6) (v := .ref (a0 0)) (C := RX6) (T := TX6) (N := 6) hx hb hts hinX6 hown hK hP 0 rfl rfl 0 (by decide) (hts (.fieldLink RX6 22 "KneeBench$SeasonText" "tokens" "LKneeBench$Tokens;") (List.mem_of_getElem? (i := 1) rfl)) (fun _ h9 => h9) rfl dX6_readStep_78 ?_
      refine lv_bipush (v := 7) hx hb dX6_readStep_81 (by decide) ?_
      obtain ⟨r11, hr11, h⟩ := lt_elim h
      refine ca_z (w' := [WX6 cy h0 a0 t69_0, WX8 cy (a0 0) a1 r11.2, WX5 cy (a0 1) a2 s2]) (rn_V (As := [.int (7 : Int32)]) (rest := []) ⟨hx, hb, hml, hown, hts⟩ (kX8_fail l D cy (a0 0) a1 s1 (7 : Int32) r11 hr11.symm H.size) (cwV 1 hts gX6_readStep_X8_fail rfl rfl rfl (by decide +kernel) ⟨Nat.le_of_ble_eq_true rfl, Nat.le_of_ble_eq_true rfl⟩) hK hN hP hD [1] rfl rfl (ci := 8) (q0 := 2) rfl rfl rfl rfl hl.1 rfl (Nat.le_of_ble_eq_true rfl) dX6_readStep_83 ⟨Nat.le_refl 0, Nat.le_refl 0⟩) hP hD hS hA [1] ⟨rfl, rfl, rfl, rfl⟩ (fun b12 H locs hP hD hS => ?_)
      exact hret 86 H locs ls (r11.1, t69_0, r11.2, s2) (Option.some.inj h) hP hD hS b12 dX6_readStep_86
  refine lv_aload_n hx hb dX6_readStep_0 rfl (lv_at hl 0 rfl) ?_
  refine va_get (D := D) (ci := 6) (v := .ref (a0 0)) (C := RX6) (T := TX6) (N := 6) hx hb hts hinX6 hown hK hP 0 rfl rfl 0 (by decide) (hts (.fieldLink RX6 22 "KneeBench$SeasonText" "tokens" "LKneeBench$Tokens;") (List.mem_of_getElem? (i := 1) rfl)) (fun _ h9 => h9) rfl dX6_readStep_1 ?_
  refine va_getN (D := D) (ci := 8) (v := .int (gi s1 8)) (C := RX8) (T := TX8) (N := 14) hx hb hts hinX8 hown hK hP 2 rfl rfl 8 (by decide) (NW.fld hN 46 rfl _) (fun _ h9 => h9) rfl dX6_readStep_4 ?_
  refine lv_topi (fun x13 ex13 => ?_)
  replace h := lt_use h x13 ex13
  refine lv_istore_n (lv' := [(1, .int x13), (0, .ref h0)]) hx hb dX6_readStep_7 rfl hl (by decide) rfl (fun ls hl => ?_)
  refine lv_iload_n hx hb dX6_readStep_8 rfl (lv_at hl 0 rfl) ?_
  refine ca_z (w' := [WX6 cy h0 a0 s0, WX8 cy (a0 0) a1 s1, WX5 cy (a0 1) a2 s2]) (rn_S (As := [.int x13]) (rest := []) ⟨hx, hb, hml, hown, hts⟩ (kX6_isStep l D cy x13 _ rfl H.size) (va_cwS 1 hts gX6_readStep_X6_isStep rfl rfl rfl (by decide +kernel) ⟨Nat.le_of_ble_eq_true rfl, Nat.le_of_ble_eq_true rfl⟩) hK hN hP hD [] rfl rfl rfl hl.1 rfl (Nat.le_of_ble_eq_true rfl) dX6_readStep_9 ⟨Nat.le_refl 0, Nat.le_refl 0⟩) hP hD hS hA [] ⟨rfl, rfl, rfl, rfl⟩ (fun b14 H locs hP hD hS => ?_)
  refine lv_if_ne (tgt := 24) hx hb dX6_readStep_12 (by decide) (fun c15 => ?_) (fun c15 => ?_)
  · replace h := (if_neg c15).symm.trans h
    refine lv_aload_n hx hb dX6_readStep_24 rfl (lv_at hl 1 rfl) ?_
    refine va_get (D := D) (ci := 6) (v := .ref (a0 1)) (C := RX6) (T := TX6) (N := 6) hx hb hts hinX6 hown hK hP 0 rfl rfl 1 (by decide) (hts (.fieldLink RX6 26 "KneeBench$SeasonText" "draft" "LKneeBench$Season;") (List.mem_of_getElem? (i := 2) rfl)) (fun _ h9 => h9) rfl dX6_readStep_25 ?_
    refine va_getN (D := D) (ci := 5) (v := .int (gi s2 6)) (C := RX5) (T := TX5) (N := 8) hx hb hts hinX5 hown hK hP 5 rfl rfl 6 (by decide) (NW.fld hN 37 rfl _) (fun _ h9 => h9) rfl dX6_readStep_28 ?_
    refine lv_bipush (v := 30) hx hb dX6_readStep_31 (by decide) ?_
    refine lv_icmp_lt (tgt := 46) hx hb dX6_readStep_33 (by decide) (fun c16 => ?_) (fun c16 => ?_)
    · replace h := (if_pos c16).symm.trans h
      refine lv_aload_n hx hb dX6_readStep_46 rfl (lv_at hl 1 rfl) ?_
      refine lv_aload_n hx hb dX6_readStep_47 rfl (lv_at hl 1 rfl) ?_
      refine va_get (D := D) (ci := 6) (v := .ref (a0 1)) (C := RX6) (T := TX6) (N := 6) hx hb hts hinX6 hown hK hP 0 rfl rfl 1 (by decide) (hts (.fieldLink RX6 26 "KneeBench$SeasonText" "draft" "LKneeBench$Season;") (List.mem_of_getElem? (i := 2) rfl)) (fun _ h9 => h9) rfl dX6_readStep_48 ?_
      refine va_getN (D := D) (ci := 5) (v := .int (gi s2 5)) (C := RX5) (T := TX5) (N := 8) hx hb hts hinX5 hown hK hP 5 rfl rfl 5 (by decide) (NW.fld hN 36 rfl _) (fun _ h9 => h9) rfl dX6_readStep_51 ?_
      obtain ⟨s0_17, es, h⟩ := lt_elim h
      refine va_put (D := D) (ci := 6) (v := .int (gi s2 5)) (ty := .int) (C := RX6) (T := TX6) (N := 6) hx hb hts hinX6 tyX6 tyX6_ok nmX6 hown hK hP hD hS 0 rfl rfl 5 (by decide) (hts (.fieldLink RX6 19 "KneeBench$SeasonText" "at" "I") (List.mem_of_getElem? (i := 3) rfl)) (fun _ h9 => h9) rfl (by decide +kernel) rfl rfl (Nat.le_of_ble_eq_true rfl) dX6_readStep_54 (fun H locs hP hD hS => ?_)
      have hP : va_P D vwCl (flat [WX6 cy h0 a0 s0_17, WX8 cy (a0 0) a1 s1, WX5 cy (a0 1) a2 s2]) H := by rw [es]; exact hP
      have hD : va_D A (flat [WX6 cy h0 a0 s0_17, WX8 cy (a0 0) a1 s1, WX5 cy (a0 1) a2 s2]) := by rw [es]; exact hD
      clear es
      refine lv_iload_n hx hb dX6_readStep_57 rfl (lv_at hl 0 rfl) ?_
      refine lv_bipush (v := 23) hx hb dX6_readStep_58 (by decide) ?_
      refine lv_icmp_eq (tgt := 69) hx hb dX6_readStep_60 (by decide) (fun c18 => ?_) (fun c18 => ?_)
      · replace h := (if_pos c18).symm.trans h
        exact J69 x13 s0_17 H locs ls (lv_sub hl [1, 0] rfl) hP hD hS h
      · replace h := (if_neg c18).symm.trans h
        refine lv_iload_n hx hb dX6_readStep_63 rfl (lv_at hl 0 rfl) ?_
        refine lv_bipush (v := 27) hx hb dX6_readStep_64 (by decide) ?_
        refine lv_icmp_ne (tgt := 110) hx hb dX6_readStep_66 (by decide) (fun c19 => ?_) (fun c19 => ?_)
        · replace h := (if_neg c19).symm.trans h
          exact J110 x13 s0_17 H locs ls (lv_sub hl [1, 0] rfl) hP hD hS h
        · replace h := (if_pos c19).symm.trans h
          exact J69 x13 s0_17 H locs ls (lv_sub hl [1, 0] rfl) hP hD hS h
    · replace h := (if_neg c16).symm.trans h
      refine lv_aload_n hx hb dX6_readStep_36 rfl (lv_at hl 1 rfl) ?_
      refine va_get (D := D) (ci := 6) (v := .ref (a0 0)) (C := RX6) (T := TX6) (N := 6) hx hb hts hinX6 hown hK hP 0 rfl rfl 0 (by decide) (hts (.fieldLink RX6 22 "KneeBench$SeasonText" "tokens" "LKneeBench$Tokens;") (List.mem_of_getElem? (i := 1) rfl)) (fun _ h9 => h9) rfl dX6_readStep_37 ?_
      refine lv_bipush (v := 6) hx hb dX6_readStep_40 (by decide) ?_
      obtain ⟨r20, hr20, h⟩ := lt_elim h
      refine ca_z (w' := [WX6 cy h0 a0 s0, WX8 cy (a0 0) a1 r20.2, WX5 cy (a0 1) a2 s2]) (rn_V (As := [.int (6 : Int32)]) (rest := []) ⟨hx, hb, hml, hown, hts⟩ (kX8_fail l D cy (a0 0) a1 s1 (6 : Int32) r20 hr20.symm H.size) (cwV 1 hts gX6_readStep_X8_fail rfl rfl rfl (by decide +kernel) ⟨Nat.le_of_ble_eq_true rfl, Nat.le_of_ble_eq_true rfl⟩) hK hN hP hD [1] rfl rfl (ci := 8) (q0 := 2) rfl rfl rfl rfl hl.1 rfl (Nat.le_of_ble_eq_true rfl) dX6_readStep_42 ⟨Nat.le_refl 0, Nat.le_refl 0⟩) hP hD hS hA [1] ⟨rfl, rfl, rfl, rfl⟩ (fun b21 H locs hP hD hS => ?_)
      exact hret 45 H locs ls (r20.1, s0, r20.2, s2) (Option.some.inj h) hP hD hS b21 dX6_readStep_45
  · replace h := (if_pos c15).symm.trans h
    refine lv_aload_n hx hb dX6_readStep_15 rfl (lv_at hl 1 rfl) ?_
    refine va_get (D := D) (ci := 6) (v := .ref (a0 0)) (C := RX6) (T := TX6) (N := 6) hx hb hts hinX6 hown hK hP 0 rfl rfl 0 (by decide) (hts (.fieldLink RX6 22 "KneeBench$SeasonText" "tokens" "LKneeBench$Tokens;") (List.mem_of_getElem? (i := 1) rfl)) (fun _ h9 => h9) rfl dX6_readStep_16 ?_
    refine lv_iconst (v := 2) hx hb dX6_readStep_19 (by decide) ?_
    obtain ⟨r22, hr22, h⟩ := lt_elim h
    refine ca_z (w' := [WX6 cy h0 a0 s0, WX8 cy (a0 0) a1 r22.2, WX5 cy (a0 1) a2 s2]) (rn_V (As := [.int (2 : Int32)]) (rest := []) ⟨hx, hb, hml, hown, hts⟩ (kX8_fail l D cy (a0 0) a1 s1 (2 : Int32) r22 hr22.symm H.size) (cwV 1 hts gX6_readStep_X8_fail rfl rfl rfl (by decide +kernel) ⟨Nat.le_of_ble_eq_true rfl, Nat.le_of_ble_eq_true rfl⟩) hK hN hP hD [1] rfl rfl (ci := 8) (q0 := 2) rfl rfl rfl rfl hl.1 rfl (Nat.le_of_ble_eq_true rfl) dX6_readStep_20 ⟨Nat.le_refl 0, Nat.le_refl 0⟩) hP hD hS hA [1] ⟨rfl, rfl, rfl, rfl⟩ (fun b23 H locs hP hD hS => ?_)
    exact hret 23 H locs ls (r22.1, s0, r22.2, s2) (Option.some.inj h) hP hD hS b23 dX6_readStep_23
set_option maxRecDepth 20000 in
theorem ggX6_readFarmerOn_X8_passFarmer : GoodIn wsX6_readFarmerOn wsX8_passFarmer := goodIn_r _ [7, 8, 9, 10, 6, 11, 12, 13, 14, 15, 16, 17, 18, 19, 20, 21, 22, 23, 24, 25, 26, 27, 28, 29, 30, 31, 32, 33, 34, 35, 36, 37, 38, 39, 40, 41, 42, 43, 44, 45, 46, 47, 48, 49, 50, 51, 52, 53, 54, 55, 56, 57, 68, 69, 70, 71, 72, 73, 74, 75, 76, 77, 78, 79, 80, 81, 82, 83, 84, 85, 86, 87, 88, 89, 90, 91, 92, 93, 94, 95] (by decide +kernel) (by decide +kernel)
set_option maxRecDepth 20000 in
theorem gX6_readFarmerOn_X8_passFarmer : GoodIn wsX6_readFarmerOn (wsV RX6 99 RX8 yX8_passFarmer wsX8_passFarmer) := goodIn_app (goodIn_of _ (by decide +kernel)) ggX6_readFarmerOn_X8_passFarmer
set_option maxRecDepth 20000 in
theorem ggX6_readFarmerOn_X8_passWord : GoodIn wsX6_readFarmerOn wsX8_passWord := goodIn_r _ [61, 20, 35, 36, 37, 6, 38, 39, 26, 40, 41, 18, 19, 12, 42, 43, 44, 45, 46, 47, 48, 49, 50, 51, 52, 53, 54, 55, 56, 57, 21, 22, 23, 24, 25, 27, 68, 69, 70, 71, 72, 73, 74, 75, 76, 77, 78, 79, 80, 81] (by decide +kernel) (by decide +kernel)
set_option maxRecDepth 20000 in
theorem gX6_readFarmerOn_X8_passWord : GoodIn wsX6_readFarmerOn (wsV RX6 106 RX8 yX8_passWord wsX8_passWord) := goodIn_app (goodIn_of _ (by decide +kernel)) ggX6_readFarmerOn_X8_passWord
theorem dX6_readFarmerOn_0 : decode cX6_readFarmerOn 0 = .ok (.aload_n 0, 1) := by decide +kernel
theorem dX6_readFarmerOn_1 : decode cX6_readFarmerOn 1 = .ok (.getfield 22, 3) := by decide +kernel
theorem dX6_readFarmerOn_4 : decode cX6_readFarmerOn 4 = .ok (.aload_n 0, 1) := by decide +kernel
theorem dX6_readFarmerOn_5 : decode cX6_readFarmerOn 5 = .ok (.getfield 30, 3) := by decide +kernel
theorem dX6_readFarmerOn_8 : decode cX6_readFarmerOn 8 = .ok (.invokevirtual 99, 3) := by decide +kernel
theorem dX6_readFarmerOn_11 : decode cX6_readFarmerOn 11 = .ok (.ifCond .eq 19, 3) := by decide +kernel
theorem dX6_readFarmerOn_14 : decode cX6_readFarmerOn 14 = .ok (.aload_n 0, 1) := by decide +kernel
theorem dX6_readFarmerOn_15 : decode cX6_readFarmerOn 15 = .ok (.getfield 22, 3) := by decide +kernel
theorem dX6_readFarmerOn_18 : decode cX6_readFarmerOn 18 = .ok (.bipush 19, 2) := by decide +kernel
theorem dX6_readFarmerOn_20 : decode cX6_readFarmerOn 20 = .ok (.invokevirtual 106, 3) := by decide +kernel
theorem dX6_readFarmerOn_23 : decode cX6_readFarmerOn 23 = .ok (.ifCond .eq 7, 3) := by decide +kernel
theorem dX6_readFarmerOn_26 : decode cX6_readFarmerOn 26 = .ok (.iconst 1, 1) := by decide +kernel
theorem dX6_readFarmerOn_27 : decode cX6_readFarmerOn 27 = .ok (.goto 4, 3) := by decide +kernel
theorem dX6_readFarmerOn_30 : decode cX6_readFarmerOn 30 = .ok (.iconst 0, 1) := by decide +kernel
theorem dX6_readFarmerOn_31 : decode cX6_readFarmerOn 31 = .ok (.ireturn, 1) := by decide +kernel
abbrev rmX6_readFarmerOn : Room := { frames := 4, cells := 0, slots := 0, locals := 86 }
set_option maxHeartbeats 4000000 in
set_option maxRecDepth 100000 in
theorem kX6_readFarmerOn (l : Launch) (D : va_G) (cy : Nat → ClassId) (h0 : Nat) (a0 : Nat → Nat) (a1 : Nat → Nat) (a2 : Nat → Nat) (s0 : Rc) (s1 : Rc) (s2 : Rc) (res : Int32 × Rc) (h : fX6_readFarmerOn s0 s1 s2 = some res) : CZ l D cy yX6_readFarmerOn wsX6_readFarmerOn rmX6_readFarmerOn [.ref h0] (flat [WX6 cy h0 a0 s0, WX8 cy (a0 0) a1 s1, WX0 cy (a0 2) a2 s2]) (flat [WX6 cy h0 a0 s0, WX8 cy (a0 0) a1 res.2, WX0 cy (a0 2) a2 s2]) res.1 := by
  refine CZ.of (cc := cX6_readFarmerOn) (maxL := 1) (by decide) rfl (Nat.le_of_ble_eq_true rfl) ?_
  intro p e s m args below meth c A QQ ls E hr
  obtain ⟨hx, hb, hml, hown, hts, hK, hN, hP, hD, hA, hl⟩ := E
  have hret : ∀ (pc : Nat) (H : Heap) (locs : List Loc) (ls : Array Slot) (u : Int32 × Rc), u = res → va_P D vwCl (flat [WX6 cy h0 a0 s0, WX8 cy (a0 0) a1 u.2, WX0 cy (a0 2) a2 s2]) H → va_D A (flat [WX6 cy h0 a0 s0, WX8 cy (a0 0) a1 u.2, WX0 cy (a0 2) a2 s2]) → va_S A s.heap H locs → isb u.1 = true → decode cX6_readFarmerOn pc = .ok (.ireturn, 1) → W p l e rmX6_readFarmerOn s m args below meth c H locs 0 0 QQ (F0 m pc ls [.int u.1]) := by
    intro pc H locs ls u hu hP hD hS hz hd; subst hu; exact hr pc H locs ls _ rfl hP hD hS hz hd
  clear hr
  have hl : lv_has ls 1 [(0, .ref h0)] := hl
  have hinX6 : ∀ w ∈ wsX60, w ∈ wsX6_readFarmerOn := fun _ h => List.mem_cons_of_mem _ (List.mem_append_left _ (List.mem_append_left _ (List.mem_append_right _ h)))
  unfold fX6_readFarmerOn at h
  suffices key : ∀ (H : Heap) (locs : List Loc), va_P D vwCl (flat [WX6 cy h0 a0 s0, WX8 cy (a0 0) a1 s1, WX0 cy (a0 2) a2 s2]) H → va_S A s.heap H locs → W p l e rmX6_readFarmerOn s m args below meth c H locs 0 0 QQ (F0 m 0 ls []) from key _ _ hP va_S.rf
  clear hP
  intro H locs hP hS
  refine lv_aload_n hx hb dX6_readFarmerOn_0 rfl (lv_at hl 0 rfl) ?_
  refine va_get (D := D) (ci := 6) (v := .ref (a0 0)) (C := RX6) (T := TX6) (N := 6) hx hb hts hinX6 hown hK hP 0 rfl rfl 0 (by decide) (hts (.fieldLink RX6 22 "KneeBench$SeasonText" "tokens" "LKneeBench$Tokens;") (List.mem_of_getElem? (i := 1) rfl)) (fun _ h9 => h9) rfl dX6_readFarmerOn_1 ?_
  refine lv_aload_n hx hb dX6_readFarmerOn_4 rfl (lv_at hl 0 rfl) ?_
  refine va_get (D := D) (ci := 6) (v := .ref (a0 2)) (C := RX6) (T := TX6) (N := 6) hx hb hts hinX6 hown hK hP 0 rfl rfl 2 (by decide) (hts (.fieldLink RX6 30 "KneeBench$SeasonText" "bench" "LKneeBench$Bench;") (List.mem_of_getElem? (i := 2) rfl)) (fun _ h9 => h9) rfl dX6_readFarmerOn_5 ?_
  obtain ⟨r1, hr1, h⟩ := bd_elim h
  refine ca_z (w' := [WX6 cy h0 a0 s0, WX8 cy (a0 0) a1 r1.2, WX0 cy (a0 2) a2 s2]) (rn_V (As := [.ref (a0 2)]) (rest := []) ⟨hx, hb, hml, hown, hts⟩ (kX8_passFarmer l D cy (a0 0) (a0 2) a1 a2 s1 s2 r1 hr1 H.size) (cwV 1 hts gX6_readFarmerOn_X8_passFarmer rfl rfl rfl (by decide +kernel) ⟨Nat.le_of_ble_eq_true rfl, Nat.le_of_ble_eq_true rfl⟩) hK hN hP hD [1, 2] rfl rfl (ci := 8) (q0 := 2) rfl rfl rfl rfl hl.1 rfl (Nat.le_of_ble_eq_true rfl) dX6_readFarmerOn_8 ⟨Nat.le_refl 0, Nat.le_refl 0⟩) hP hD hS hA [1, 2] ⟨rfl, rfl, rfl, rfl⟩ (fun b2 H locs hP hD hS => ?_)
  refine lv_if_eq (tgt := 30) hx hb dX6_readFarmerOn_11 (by decide) (fun c3 => ?_) (fun c3 => ?_)
  · replace h := (if_pos c3).symm.trans h
    refine lv_iconst (v := 0) hx hb dX6_readFarmerOn_30 (by decide) ?_
    exact hret 31 H locs ls ((0 : Int32), r1.2) (Option.some.inj h) hP hD hS (show isb (0 : Int32) = true by decide) dX6_readFarmerOn_31
  · replace h := (if_neg c3).symm.trans h
    refine lv_aload_n hx hb dX6_readFarmerOn_14 rfl (lv_at hl 0 rfl) ?_
    refine va_get (D := D) (ci := 6) (v := .ref (a0 0)) (C := RX6) (T := TX6) (N := 6) hx hb hts hinX6 hown hK hP 0 rfl rfl 0 (by decide) (hts (.fieldLink RX6 22 "KneeBench$SeasonText" "tokens" "LKneeBench$Tokens;") (List.mem_of_getElem? (i := 1) rfl)) (fun _ h9 => h9) rfl dX6_readFarmerOn_15 ?_
    refine lv_bipush (v := 19) hx hb dX6_readFarmerOn_18 (by decide) ?_
    obtain ⟨r4, hr4, h⟩ := bd_elim h
    refine ca_z (w' := [WX6 cy h0 a0 s0, WX8 cy (a0 0) a1 r4.2, WX0 cy (a0 2) a2 s2]) (rn_V (As := [.int (19 : Int32)]) (rest := []) ⟨hx, hb, hml, hown, hts⟩ (kX8_passWord l D cy (a0 0) a1 r1.2 (19 : Int32) r4 hr4 H.size) (cwV 1 hts gX6_readFarmerOn_X8_passWord rfl rfl rfl (by decide +kernel) ⟨Nat.le_of_ble_eq_true rfl, Nat.le_of_ble_eq_true rfl⟩) hK hN hP hD [1] rfl rfl (ci := 8) (q0 := 2) rfl rfl rfl rfl hl.1 rfl (Nat.le_of_ble_eq_true rfl) dX6_readFarmerOn_20 ⟨Nat.le_refl 0, Nat.le_refl 0⟩) hP hD hS hA [1] ⟨rfl, rfl, rfl, rfl⟩ (fun b5 H locs hP hD hS => ?_)
    refine lv_if_eq (tgt := 30) hx hb dX6_readFarmerOn_23 (by decide) (fun c6 => ?_) (fun c6 => ?_)
    · replace h := (if_pos c6).symm.trans h
      refine lv_iconst (v := 0) hx hb dX6_readFarmerOn_30 (by decide) ?_
      exact hret 31 H locs ls ((0 : Int32), r4.2) (Option.some.inj h) hP hD hS (show isb (0 : Int32) = true by decide) dX6_readFarmerOn_31
    · replace h := (if_neg c6).symm.trans h
      refine lv_iconst (v := 1) hx hb dX6_readFarmerOn_26 (by decide) ?_
      refine lv_goto (tgt := 31) hx hb dX6_readFarmerOn_27 (by decide) ?_
      exact hret 31 H locs ls ((1 : Int32), r4.2) (Option.some.inj h) hP hD hS (show isb (1 : Int32) = true by decide) dX6_readFarmerOn_31
set_option maxRecDepth 20000 in
theorem ggX6_readSign_X8_isSign : GoodIn wsX6_readSign wsX8_isSign := goodIn_r _ [8, 9, 10, 58, 59, 60, 61, 62, 63, 64, 65, 66, 67, 68, 69, 70, 71] (by decide +kernel) (by decide +kernel)
set_option maxRecDepth 20000 in
theorem gX6_readSign_X8_isSign : GoodIn wsX6_readSign (wsV RX6 112 RX8 yX8_isSign wsX8_isSign) := goodIn_app (goodIn_of _ (by decide +kernel)) ggX6_readSign_X8_isSign
set_option maxRecDepth 20000 in
theorem ggX6_readSign_X8_fail : GoodIn wsX6_readSign wsX8_fail := goodIn_r _ [14, 15, 16, 17, 58, 59, 60, 61, 62, 63, 64, 65, 66, 67, 68, 69, 70, 71] (by decide +kernel) (by decide +kernel)
set_option maxRecDepth 20000 in
theorem gX6_readSign_X8_fail : GoodIn wsX6_readSign (wsV RX6 71 RX8 yX8_fail wsX8_fail) := goodIn_app (goodIn_of _ (by decide +kernel)) ggX6_readSign_X8_fail
set_option maxRecDepth 20000 in
theorem ggX6_readSign_X8_advance : GoodIn wsX6_readSign wsX8_advance := goodIn_r _ [21, 22, 16, 23, 24, 9, 25, 26, 27, 10, 28, 29, 7, 30, 31, 32, 33, 34, 35, 36, 37, 38, 39, 40, 41, 42, 43, 12, 13, 14, 15, 17, 58, 59, 60, 61, 62, 63, 64, 65, 66, 67, 68, 69, 70, 71] (by decide +kernel) (by decide +kernel)
set_option maxRecDepth 20000 in
theorem gX6_readSign_X8_advance : GoodIn wsX6_readSign (wsV RX6 83 RX8 yX8_advance wsX8_advance) := goodIn_app (goodIn_of _ (by decide +kernel)) ggX6_readSign_X8_advance
theorem dX6_readSign_0 : decode cX6_readSign 0 = .ok (.aload_n 0, 1) := by decide +kernel
theorem dX6_readSign_1 : decode cX6_readSign 1 = .ok (.getfield 22, 3) := by decide +kernel
theorem dX6_readSign_4 : decode cX6_readSign 4 = .ok (.bipush 60, 2) := by decide +kernel
theorem dX6_readSign_6 : decode cX6_readSign 6 = .ok (.invokevirtual 112, 3) := by decide +kernel
theorem dX6_readSign_9 : decode cX6_readSign 9 = .ok (.ifCond .ne 36, 3) := by decide +kernel
theorem dX6_readSign_12 : decode cX6_readSign 12 = .ok (.aload_n 0, 1) := by decide +kernel
theorem dX6_readSign_13 : decode cX6_readSign 13 = .ok (.getfield 22, 3) := by decide +kernel
theorem dX6_readSign_16 : decode cX6_readSign 16 = .ok (.bipush 62, 2) := by decide +kernel
theorem dX6_readSign_18 : decode cX6_readSign 18 = .ok (.invokevirtual 112, 3) := by decide +kernel
theorem dX6_readSign_21 : decode cX6_readSign 21 = .ok (.ifCond .ne 24, 3) := by decide +kernel
theorem dX6_readSign_24 : decode cX6_readSign 24 = .ok (.aload_n 0, 1) := by decide +kernel
theorem dX6_readSign_25 : decode cX6_readSign 25 = .ok (.getfield 22, 3) := by decide +kernel
theorem dX6_readSign_28 : decode cX6_readSign 28 = .ok (.bipush 61, 2) := by decide +kernel
theorem dX6_readSign_30 : decode cX6_readSign 30 = .ok (.invokevirtual 112, 3) := by decide +kernel
theorem dX6_readSign_33 : decode cX6_readSign 33 = .ok (.ifCond .ne 12, 3) := by decide +kernel
theorem dX6_readSign_36 : decode cX6_readSign 36 = .ok (.aload_n 0, 1) := by decide +kernel
theorem dX6_readSign_37 : decode cX6_readSign 37 = .ok (.getfield 22, 3) := by decide +kernel
theorem dX6_readSign_40 : decode cX6_readSign 40 = .ok (.iconst 2, 1) := by decide +kernel
theorem dX6_readSign_41 : decode cX6_readSign 41 = .ok (.invokevirtual 71, 3) := by decide +kernel
theorem dX6_readSign_44 : decode cX6_readSign 44 = .ok (.ireturn, 1) := by decide +kernel
theorem dX6_readSign_45 : decode cX6_readSign 45 = .ok (.aload_n 0, 1) := by decide +kernel
theorem dX6_readSign_46 : decode cX6_readSign 46 = .ok (.getfield 26, 3) := by decide +kernel
theorem dX6_readSign_49 : decode cX6_readSign 49 = .ok (.getfield 115, 3) := by decide +kernel
theorem dX6_readSign_52 : decode cX6_readSign 52 = .ok (.aload_n 0, 1) := by decide +kernel
theorem dX6_readSign_53 : decode cX6_readSign 53 = .ok (.getfield 19, 3) := by decide +kernel
theorem dX6_readSign_56 : decode cX6_readSign 56 = .ok (.aload_n 0, 1) := by decide +kernel
theorem dX6_readSign_57 : decode cX6_readSign 57 = .ok (.getfield 22, 3) := by decide +kernel
theorem dX6_readSign_60 : decode cX6_readSign 60 = .ok (.getfield 118, 3) := by decide +kernel
theorem dX6_readSign_63 : decode cX6_readSign 63 = .ok (.iastore, 1) := by decide +kernel
theorem dX6_readSign_64 : decode cX6_readSign 64 = .ok (.aload_n 0, 1) := by decide +kernel
theorem dX6_readSign_65 : decode cX6_readSign 65 = .ok (.getfield 22, 3) := by decide +kernel
theorem dX6_readSign_68 : decode cX6_readSign 68 = .ok (.invokevirtual 83, 3) := by decide +kernel
theorem dX6_readSign_71 : decode cX6_readSign 71 = .ok (.ireturn, 1) := by decide +kernel
abbrev rmX6_readSign : Room := { frames := 3, cells := 0, slots := 0, locals := 65 }
set_option maxHeartbeats 4000000 in
set_option maxRecDepth 100000 in
theorem kX6_readSign (l : Launch) (D : va_G) (cy : Nat → ClassId) (h0 : Nat) (a0 : Nat → Nat) (a1 : Nat → Nat) (a2 : Nat → Nat) (s0 : Rc) (s1 : Rc) (s2 : Rc) (res : Int32 × Rc × Rc) (h : fX6_readSign s0 s1 s2 = some res) : CZ l D cy yX6_readSign wsX6_readSign rmX6_readSign [.ref h0] (flat [WX6 cy h0 a0 s0, WX8 cy (a0 0) a1 s1, WX5 cy (a0 1) a2 s2]) (flat [WX6 cy h0 a0 s0, WX8 cy (a0 0) a1 res.2.1, WX5 cy (a0 1) a2 res.2.2]) res.1 := by
  refine CZ.of (cc := cX6_readSign) (maxL := 1) (by decide) rfl (Nat.le_of_ble_eq_true rfl) ?_
  intro p e s m args below meth c A QQ ls E hr
  obtain ⟨hx, hb, hml, hown, hts, hK, hN, hP, hD, hA, hl⟩ := E
  have hret : ∀ (pc : Nat) (H : Heap) (locs : List Loc) (ls : Array Slot) (u : Int32 × Rc × Rc), u = res → va_P D vwCl (flat [WX6 cy h0 a0 s0, WX8 cy (a0 0) a1 u.2.1, WX5 cy (a0 1) a2 u.2.2]) H → va_D A (flat [WX6 cy h0 a0 s0, WX8 cy (a0 0) a1 u.2.1, WX5 cy (a0 1) a2 u.2.2]) → va_S A s.heap H locs → isb u.1 = true → decode cX6_readSign pc = .ok (.ireturn, 1) → W p l e rmX6_readSign s m args below meth c H locs 0 0 QQ (F0 m pc ls [.int u.1]) := by
    intro pc H locs ls u hu hP hD hS hz hd; subst hu; exact hr pc H locs ls _ rfl hP hD hS hz hd
  clear hr
  have hl : lv_has ls 1 [(0, .ref h0)] := hl
  have hinX5 : ∀ w ∈ wsX50, w ∈ wsX6_readSign := fun _ h => List.mem_cons_of_mem _ (List.mem_append_left _ (List.mem_append_right _ h))
  have hinX6 : ∀ w ∈ wsX60, w ∈ wsX6_readSign := fun _ h => List.mem_cons_of_mem _ (List.mem_append_left _ (List.mem_append_left _ (List.mem_append_right _ h)))
  have hinX8 : ∀ w ∈ wsX80, w ∈ wsX6_readSign := fun _ h => List.mem_cons_of_mem _ (List.mem_append_right _ h)
  unfold fX6_readSign at h
  suffices key : ∀ (H : Heap) (locs : List Loc), va_P D vwCl (flat [WX6 cy h0 a0 s0, WX8 cy (a0 0) a1 s1, WX5 cy (a0 1) a2 s2]) H → va_S A s.heap H locs → W p l e rmX6_readSign s m args below meth c H locs 0 0 QQ (F0 m 0 ls []) from key _ _ hP va_S.rf
  clear hP
  intro H locs hP hS
  have J45 : ∀  (H : Heap) (locs : List Loc) (ls : Array Slot), lv_has ls 1 [(0, .ref h0)] → va_P D vwCl (flat [WX6 cy h0 a0 s0, WX8 cy (a0 0) a1 s1, WX5 cy (a0 1) a2 s2]) H → va_D A (flat [WX6 cy h0 a0 s0, WX8 cy (a0 0) a1 s1, WX5 cy (a0 1) a2 s2]) → va_S A s.heap H locs → fX6_readSign_J45 s0 s1 s2 = some res → W p l e rmX6_readSign s m args below meth c H locs 0 0 QQ (F0 m 45 ls []) := by
    intro  H locs ls hl hP hD hS h
    unfold fX6_readSign_J45 at h
    refine lv_aload_n hx hb dX6_readSign_45 rfl (lv_at hl 0 rfl) ?_
    refine va_get (D := D) (ci := 6) (v := .ref (a0 1)) (C := RX6) (T := TX6) (N := 6) hx hb hts hinX6 hown hK hP 0 rfl rfl 1 (by decide) (hts (.fieldLink RX6 26 "KneeBench$SeasonText" "draft" "LKneeBench$Season;") (List.mem_of_getElem? (i := 2) rfl)) (fun _ h9 => h9) rfl dX6_readSign_46 ?_
    refine va_getN (D := D) (ci := 5) (v := .ref (a2 2)) (C := RX5) (T := TX5) (N := 8) hx hb hts hinX5 hown hK hP 5 rfl rfl 2 (by decide) (NW.fld hN 30 rfl _) (fun _ h9 => h9) rfl dX6_readSign_49 ?_
    refine lv_aload_n hx hb dX6_readSign_52 rfl (lv_at hl 0 rfl) ?_
    refine va_get (D := D) (ci := 6) (v := .int (gi s0 5)) (C := RX6) (T := TX6) (N := 6) hx hb hts hinX6 hown hK hP 0 rfl rfl 5 (by decide) (hts (.fieldLink RX6 19 "KneeBench$SeasonText" "at" "I") (List.mem_of_getElem? (i := 3) rfl)) (fun _ h9 => h9) rfl dX6_readSign_53 ?_
    refine lv_aload_n hx hb dX6_readSign_56 rfl (lv_at hl 0 rfl) ?_
    refine va_get (D := D) (ci := 6) (v := .ref (a0 0)) (C := RX6) (T := TX6) (N := 6) hx hb hts hinX6 hown hK hP 0 rfl rfl 0 (by decide) (hts (.fieldLink RX6 22 "KneeBench$SeasonText" "tokens" "LKneeBench$Tokens;") (List.mem_of_getElem? (i := 1) rfl)) (fun _ h9 => h9) rfl dX6_readSign_57 ?_
    refine va_getN (D := D) (ci := 8) (v := .int (gi s1 9)) (C := RX8) (T := TX8) (N := 14) hx hb hts hinX8 hown hK hP 2 rfl rfl 9 (by decide) (NW.fld hN 48 rfl _) (fun _ h9 => h9) rfl dX6_readSign_60 ?_
    obtain ⟨g1, h⟩ := gd_elim h
    obtain ⟨s2_2, es, h⟩ := lt_elim h
    refine va_iast hx hb hK hP hD hS 8 1 rfl rfl (inb_in g1) dX6_readSign_63 (fun H locs hP hD hS => ?_)
    have hP : va_P D vwCl (flat [WX6 cy h0 a0 s0, WX8 cy (a0 0) a1 s1, WX5 cy (a0 1) a2 s2_2]) H := by rw [es]; exact hP
    have hD : va_D A (flat [WX6 cy h0 a0 s0, WX8 cy (a0 0) a1 s1, WX5 cy (a0 1) a2 s2_2]) := by rw [es]; exact hD
    clear es
    refine lv_aload_n hx hb dX6_readSign_64 rfl (lv_at hl 0 rfl) ?_
    refine va_get (D := D) (ci := 6) (v := .ref (a0 0)) (C := RX6) (T := TX6) (N := 6) hx hb hts hinX6 hown hK hP 0 rfl rfl 0 (by decide) (hts (.fieldLink RX6 22 "KneeBench$SeasonText" "tokens" "LKneeBench$Tokens;") (List.mem_of_getElem? (i := 1) rfl)) (fun _ h9 => h9) rfl dX6_readSign_65 ?_
    obtain ⟨r3, hr3, h⟩ := bd_elim h
    refine ca_z (w' := [WX6 cy h0 a0 s0, WX8 cy (a0 0) a1 r3.2, WX5 cy (a0 1) a2 s2_2]) (rn_V (As := []) (rest := []) ⟨hx, hb, hml, hown, hts⟩ (kX8_advance l D cy (a0 0) a1 s1 r3 hr3 H.size) (cwV 0 hts gX6_readSign_X8_advance rfl rfl rfl (by decide +kernel) ⟨Nat.le_of_ble_eq_true rfl, Nat.le_of_ble_eq_true rfl⟩) hK hN hP hD [1] rfl rfl (ci := 8) (q0 := 2) rfl rfl rfl rfl hl.1 rfl (Nat.le_of_ble_eq_true rfl) dX6_readSign_68 ⟨Nat.le_refl 0, Nat.le_refl 0⟩) hP hD hS hA [1] ⟨rfl, rfl, rfl, rfl⟩ (fun b4 H locs hP hD hS => ?_)
    exact hret 71 H locs ls (r3.1, r3.2, s2_2) (Option.some.inj h) hP hD hS b4 dX6_readSign_71
  refine lv_aload_n hx hb dX6_readSign_0 rfl (lv_at hl 0 rfl) ?_
  refine va_get (D := D) (ci := 6) (v := .ref (a0 0)) (C := RX6) (T := TX6) (N := 6) hx hb hts hinX6 hown hK hP 0 rfl rfl 0 (by decide) (hts (.fieldLink RX6 22 "KneeBench$SeasonText" "tokens" "LKneeBench$Tokens;") (List.mem_of_getElem? (i := 1) rfl)) (fun _ h9 => h9) rfl dX6_readSign_1 ?_
  refine lv_bipush (v := 60) hx hb dX6_readSign_4 (by decide) ?_
  refine ca_z (w' := [WX6 cy h0 a0 s0, WX8 cy (a0 0) a1 s1, WX5 cy (a0 1) a2 s2]) (rn_V (As := [.int (60 : Int32)]) (rest := []) ⟨hx, hb, hml, hown, hts⟩ (kX8_isSign l D cy (a0 0) a1 s1 (60 : Int32) _ rfl H.size) (cwV 1 hts gX6_readSign_X8_isSign rfl rfl rfl (by decide +kernel) ⟨Nat.le_of_ble_eq_true rfl, Nat.le_of_ble_eq_true rfl⟩) hK hN hP hD [1] rfl rfl (ci := 8) (q0 := 2) rfl rfl rfl rfl hl.1 rfl (Nat.le_of_ble_eq_true rfl) dX6_readSign_6 ⟨Nat.le_refl 0, Nat.le_refl 0⟩) hP hD hS hA [1] ⟨rfl, rfl, rfl, rfl⟩ (fun b5 H locs hP hD hS => ?_)
  refine lv_if_ne (tgt := 45) hx hb dX6_readSign_9 (by decide) (fun c6 => ?_) (fun c6 => ?_)
  · replace h := (if_neg c6).symm.trans h
    exact J45  H locs ls (lv_sub hl [0] rfl) hP hD hS h
  · replace h := (if_pos c6).symm.trans h
    refine lv_aload_n hx hb dX6_readSign_12 rfl (lv_at hl 0 rfl) ?_
    refine va_get (D := D) (ci := 6) (v := .ref (a0 0)) (C := RX6) (T := TX6) (N := 6) hx hb hts hinX6 hown hK hP 0 rfl rfl 0 (by decide) (hts (.fieldLink RX6 22 "KneeBench$SeasonText" "tokens" "LKneeBench$Tokens;") (List.mem_of_getElem? (i := 1) rfl)) (fun _ h9 => h9) rfl dX6_readSign_13 ?_
    refine lv_bipush (v := 62) hx hb dX6_readSign_16 (by decide) ?_
    refine ca_z (w' := [WX6 cy h0 a0 s0, WX8 cy (a0 0) a1 s1, WX5 cy (a0 1) a2 s2]) (rn_V (As := [.int (62 : Int32)]) (rest := []) ⟨hx, hb, hml, hown, hts⟩ (kX8_isSign l D cy (a0 0) a1 s1 (62 : Int32) _ rfl H.size) (cwV 1 hts gX6_readSign_X8_isSign rfl rfl rfl (by decide +kernel) ⟨Nat.le_of_ble_eq_true rfl, Nat.le_of_ble_eq_true rfl⟩) hK hN hP hD [1] rfl rfl (ci := 8) (q0 := 2) rfl rfl rfl rfl hl.1 rfl (Nat.le_of_ble_eq_true rfl) dX6_readSign_18 ⟨Nat.le_refl 0, Nat.le_refl 0⟩) hP hD hS hA [1] ⟨rfl, rfl, rfl, rfl⟩ (fun b7 H locs hP hD hS => ?_)
    refine lv_if_ne (tgt := 45) hx hb dX6_readSign_21 (by decide) (fun c8 => ?_) (fun c8 => ?_)
    · replace h := (if_neg c8).symm.trans h
      exact J45  H locs ls (lv_sub hl [0] rfl) hP hD hS h
    · replace h := (if_pos c8).symm.trans h
      refine lv_aload_n hx hb dX6_readSign_24 rfl (lv_at hl 0 rfl) ?_
      refine va_get (D := D) (ci := 6) (v := .ref (a0 0)) (C := RX6) (T := TX6) (N := 6) hx hb hts hinX6 hown hK hP 0 rfl rfl 0 (by decide) (hts (.fieldLink RX6 22 "KneeBench$SeasonText" "tokens" "LKneeBench$Tokens;") (List.mem_of_getElem? (i := 1) rfl)) (fun _ h9 => h9) rfl dX6_readSign_25 ?_
      refine lv_bipush (v := 61) hx hb dX6_readSign_28 (by decide) ?_
      refine ca_z (w' := [WX6 cy h0 a0 s0, WX8 cy (a0 0) a1 s1, WX5 cy (a0 1) a2 s2]) (rn_V (As := [.int (61 : Int32)]) (rest := []) ⟨hx, hb, hml, hown, hts⟩ (kX8_isSign l D cy (a0 0) a1 s1 (61 : Int32) _ rfl H.size) (cwV 1 hts gX6_readSign_X8_isSign rfl rfl rfl (by decide +kernel) ⟨Nat.le_of_ble_eq_true rfl, Nat.le_of_ble_eq_true rfl⟩) hK hN hP hD [1] rfl rfl (ci := 8) (q0 := 2) rfl rfl rfl rfl hl.1 rfl (Nat.le_of_ble_eq_true rfl) dX6_readSign_30 ⟨Nat.le_refl 0, Nat.le_refl 0⟩) hP hD hS hA [1] ⟨rfl, rfl, rfl, rfl⟩ (fun b9 H locs hP hD hS => ?_)
      refine lv_if_ne (tgt := 45) hx hb dX6_readSign_33 (by decide) (fun c10 => ?_) (fun c10 => ?_)
      · replace h := (if_neg c10).symm.trans h
        exact J45  H locs ls (lv_sub hl [0] rfl) hP hD hS h
      · replace h := (if_pos c10).symm.trans h
        refine lv_aload_n hx hb dX6_readSign_36 rfl (lv_at hl 0 rfl) ?_
        refine va_get (D := D) (ci := 6) (v := .ref (a0 0)) (C := RX6) (T := TX6) (N := 6) hx hb hts hinX6 hown hK hP 0 rfl rfl 0 (by decide) (hts (.fieldLink RX6 22 "KneeBench$SeasonText" "tokens" "LKneeBench$Tokens;") (List.mem_of_getElem? (i := 1) rfl)) (fun _ h9 => h9) rfl dX6_readSign_37 ?_
        refine lv_iconst (v := 2) hx hb dX6_readSign_40 (by decide) ?_
        obtain ⟨r11, hr11, h⟩ := lt_elim h
        refine ca_z (w' := [WX6 cy h0 a0 s0, WX8 cy (a0 0) a1 r11.2, WX5 cy (a0 1) a2 s2]) (rn_V (As := [.int (2 : Int32)]) (rest := []) ⟨hx, hb, hml, hown, hts⟩ (kX8_fail l D cy (a0 0) a1 s1 (2 : Int32) r11 hr11.symm H.size) (cwV 1 hts gX6_readSign_X8_fail rfl rfl rfl (by decide +kernel) ⟨Nat.le_of_ble_eq_true rfl, Nat.le_of_ble_eq_true rfl⟩) hK hN hP hD [1] rfl rfl (ci := 8) (q0 := 2) rfl rfl rfl rfl hl.1 rfl (Nat.le_of_ble_eq_true rfl) dX6_readSign_41 ⟨Nat.le_refl 0, Nat.le_refl 0⟩) hP hD hS hA [1] ⟨rfl, rfl, rfl, rfl⟩ (fun b12 H locs hP hD hS => ?_)
        exact hret 44 H locs ls (r11.1, r11.2, s2) (Option.some.inj h) hP hD hS b12 dX6_readSign_44
set_option maxRecDepth 20000 in
theorem ggX6_readTest_X8_advance : GoodIn wsX6_readTest wsX8_advance := goodIn_r _ [9, 10, 11, 12, 13, 14, 15, 16, 17, 18, 19, 20, 8, 21, 22, 23, 24, 25, 26, 27, 28, 29, 30, 31, 32, 33, 34, 35, 36, 37, 38, 39, 93, 94, 95, 96, 97, 98, 99, 100, 101, 102, 103, 104, 105, 106] (by decide +kernel) (by decide +kernel)
set_option maxRecDepth 20000 in
theorem gX6_readTest_X8_advance : GoodIn wsX6_readTest (wsV RX6 83 RX8 yX8_advance wsX8_advance) := goodIn_app (goodIn_of _ (by decide +kernel)) ggX6_readTest_X8_advance
set_option maxRecDepth 20000 in
theorem ggX6_readTest_X8_passNumber : GoodIn wsX6_readTest wsX8_passNumber := goodIn_r _ [43, 14, 18, 44, 34, 35, 36, 8, 37, 38, 11, 39, 45, 46, 47, 48, 6, 7, 9, 10, 12, 13, 15, 16, 17, 19, 20, 21, 22, 23, 24, 25, 26, 27, 28, 29, 30, 31, 32, 33, 93, 94, 95, 96, 97, 98, 99, 100, 101, 102, 103, 104, 105, 106] (by decide +kernel) (by decide +kernel)
set_option maxRecDepth 20000 in
theorem gX6_readTest_X8_passNumber : GoodIn wsX6_readTest (wsV RX6 92 RX8 yX8_passNumber wsX8_passNumber) := goodIn_app (goodIn_of _ (by decide +kernel)) ggX6_readTest_X8_passNumber
set_option maxRecDepth 20000 in
theorem ggX6_readTest_X8_passFarmer : GoodIn wsX6_readTest wsX8_passFarmer := goodIn_r _ [52, 53, 54, 55, 8, 56, 16, 57, 58, 59, 60, 61, 14, 15, 17, 34, 35, 36, 37, 38, 11, 39, 62, 63, 64, 65, 66, 67, 68, 48, 6, 7, 9, 10, 12, 13, 18, 19, 20, 21, 22, 23, 24, 25, 26, 27, 28, 29, 30, 31, 32, 33, 93, 94, 95, 96, 97, 98, 99, 100, 101, 102, 103, 104, 105, 106, 107, 108, 109, 110, 111, 112, 113, 114, 115, 116, 117, 118, 119, 120] (by decide +kernel) (by decide +kernel)
set_option maxRecDepth 20000 in
theorem gX6_readTest_X8_passFarmer : GoodIn wsX6_readTest (wsV RX6 99 RX8 yX8_passFarmer wsX8_passFarmer) := goodIn_app (goodIn_of _ (by decide +kernel)) ggX6_readTest_X8_passFarmer
set_option maxRecDepth 20000 in
theorem ggX6_readTest_X6_readSign : GoodIn wsX6_readTest wsX6_readSign := goodIn_r _ [73, 3, 1, 2, 74, 75, 76, 8, 77, 14, 18, 78, 35, 36, 37, 38, 11, 39, 5, 6, 7, 9, 10, 12, 13, 15, 16, 17, 19, 20, 21, 22, 23, 24, 25, 26, 27, 28, 29, 30, 31, 32, 33, 34, 79, 80, 81, 82, 83, 84, 85, 86, 87, 88, 89, 90, 91, 92, 93, 94, 95, 96, 97, 98, 99, 100, 101, 102, 103, 104, 105, 106] (by decide +kernel) (by decide +kernel)
set_option maxRecDepth 20000 in
theorem gX6_readTest_X6_readSign : GoodIn wsX6_readTest (wsV RX6 109 RX6 yX6_readSign wsX6_readSign) := goodIn_app (goodIn_of _ (by decide +kernel)) ggX6_readTest_X6_readSign
set_option maxRecDepth 20000 in
theorem ggX6_readTest_X8_fail : GoodIn wsX6_readTest wsX8_fail := goodIn_r _ [37, 38, 11, 39, 93, 94, 95, 96, 97, 98, 99, 100, 101, 102, 103, 104, 105, 106] (by decide +kernel) (by decide +kernel)
set_option maxRecDepth 20000 in
theorem gX6_readTest_X8_fail : GoodIn wsX6_readTest (wsV RX6 71 RX8 yX8_fail wsX8_fail) := goodIn_app (goodIn_of _ (by decide +kernel)) ggX6_readTest_X8_fail
theorem dX6_readTest_0 : decode cX6_readTest 0 = .ok (.aload_n 0, 1) := by decide +kernel
theorem dX6_readTest_1 : decode cX6_readTest 1 = .ok (.getfield 26, 3) := by decide +kernel
theorem dX6_readTest_4 : decode cX6_readTest 4 = .ok (.getfield 77, 3) := by decide +kernel
theorem dX6_readTest_7 : decode cX6_readTest 7 = .ok (.aload_n 0, 1) := by decide +kernel
theorem dX6_readTest_8 : decode cX6_readTest 8 = .ok (.getfield 19, 3) := by decide +kernel
theorem dX6_readTest_11 : decode cX6_readTest 11 = .ok (.aload_n 0, 1) := by decide +kernel
theorem dX6_readTest_12 : decode cX6_readTest 12 = .ok (.getfield 22, 3) := by decide +kernel
theorem dX6_readTest_15 : decode cX6_readTest 15 = .ok (.getfield 49, 3) := by decide +kernel
theorem dX6_readTest_18 : decode cX6_readTest 18 = .ok (.iastore, 1) := by decide +kernel
theorem dX6_readTest_19 : decode cX6_readTest 19 = .ok (.aload_n 0, 1) := by decide +kernel
theorem dX6_readTest_20 : decode cX6_readTest 20 = .ok (.getfield 22, 3) := by decide +kernel
theorem dX6_readTest_23 : decode cX6_readTest 23 = .ok (.getfield 49, 3) := by decide +kernel
theorem dX6_readTest_26 : decode cX6_readTest 26 = .ok (.tableswitch 141 24 26 #[26, 55, 105], 26) := by decide +kernel
theorem dX6_readTest_52 : decode cX6_readTest 52 = .ok (.aload_n 0, 1) := by decide +kernel
theorem dX6_readTest_53 : decode cX6_readTest 53 = .ok (.getfield 22, 3) := by decide +kernel
theorem dX6_readTest_56 : decode cX6_readTest 56 = .ok (.invokevirtual 83, 3) := by decide +kernel
theorem dX6_readTest_59 : decode cX6_readTest 59 = .ok (.ifCond .eq 20, 3) := by decide +kernel
theorem dX6_readTest_62 : decode cX6_readTest 62 = .ok (.aload_n 0, 1) := by decide +kernel
theorem dX6_readTest_63 : decode cX6_readTest 63 = .ok (.getfield 22, 3) := by decide +kernel
theorem dX6_readTest_66 : decode cX6_readTest 66 = .ok (.iconst 0, 1) := by decide +kernel
theorem dX6_readTest_67 : decode cX6_readTest 67 = .ok (.bipush 62, 2) := by decide +kernel
theorem dX6_readTest_69 : decode cX6_readTest 69 = .ok (.invokevirtual 92, 3) := by decide +kernel
theorem dX6_readTest_72 : decode cX6_readTest 72 = .ok (.ifCond .eq 7, 3) := by decide +kernel
theorem dX6_readTest_75 : decode cX6_readTest 75 = .ok (.iconst 1, 1) := by decide +kernel
theorem dX6_readTest_76 : decode cX6_readTest 76 = .ok (.goto 4, 3) := by decide +kernel
theorem dX6_readTest_79 : decode cX6_readTest 79 = .ok (.iconst 0, 1) := by decide +kernel
theorem dX6_readTest_80 : decode cX6_readTest 80 = .ok (.ireturn, 1) := by decide +kernel
theorem dX6_readTest_81 : decode cX6_readTest 81 = .ok (.aload_n 0, 1) := by decide +kernel
theorem dX6_readTest_82 : decode cX6_readTest 82 = .ok (.getfield 22, 3) := by decide +kernel
theorem dX6_readTest_85 : decode cX6_readTest 85 = .ok (.invokevirtual 83, 3) := by decide +kernel
theorem dX6_readTest_88 : decode cX6_readTest 88 = .ok (.ifCond .eq 41, 3) := by decide +kernel
theorem dX6_readTest_91 : decode cX6_readTest 91 = .ok (.aload_n 0, 1) := by decide +kernel
theorem dX6_readTest_92 : decode cX6_readTest 92 = .ok (.getfield 22, 3) := by decide +kernel
theorem dX6_readTest_95 : decode cX6_readTest 95 = .ok (.aload_n 0, 1) := by decide +kernel
theorem dX6_readTest_96 : decode cX6_readTest 96 = .ok (.getfield 30, 3) := by decide +kernel
theorem dX6_readTest_99 : decode cX6_readTest 99 = .ok (.invokevirtual 99, 3) := by decide +kernel
theorem dX6_readTest_102 : decode cX6_readTest 102 = .ok (.ifCond .eq 27, 3) := by decide +kernel
theorem dX6_readTest_105 : decode cX6_readTest 105 = .ok (.aload_n 0, 1) := by decide +kernel
theorem dX6_readTest_106 : decode cX6_readTest 106 = .ok (.invokevirtual 109, 3) := by decide +kernel
theorem dX6_readTest_109 : decode cX6_readTest 109 = .ok (.ifCond .eq 20, 3) := by decide +kernel
theorem dX6_readTest_112 : decode cX6_readTest 112 = .ok (.aload_n 0, 1) := by decide +kernel
theorem dX6_readTest_113 : decode cX6_readTest 113 = .ok (.getfield 22, 3) := by decide +kernel
theorem dX6_readTest_116 : decode cX6_readTest 116 = .ok (.iconst 0, 1) := by decide +kernel
theorem dX6_readTest_117 : decode cX6_readTest 117 = .ok (.bipush 64, 2) := by decide +kernel
theorem dX6_readTest_119 : decode cX6_readTest 119 = .ok (.invokevirtual 92, 3) := by decide +kernel
theorem dX6_readTest_122 : decode cX6_readTest 122 = .ok (.ifCond .eq 7, 3) := by decide +kernel
theorem dX6_readTest_125 : decode cX6_readTest 125 = .ok (.iconst 1, 1) := by decide +kernel
theorem dX6_readTest_126 : decode cX6_readTest 126 = .ok (.goto 4, 3) := by decide +kernel
theorem dX6_readTest_129 : decode cX6_readTest 129 = .ok (.iconst 0, 1) := by decide +kernel
theorem dX6_readTest_130 : decode cX6_readTest 130 = .ok (.ireturn, 1) := by decide +kernel
theorem dX6_readTest_131 : decode cX6_readTest 131 = .ok (.aload_n 0, 1) := by decide +kernel
theorem dX6_readTest_132 : decode cX6_readTest 132 = .ok (.getfield 22, 3) := by decide +kernel
theorem dX6_readTest_135 : decode cX6_readTest 135 = .ok (.invokevirtual 83, 3) := by decide +kernel
theorem dX6_readTest_138 : decode cX6_readTest 138 = .ok (.ifCond .eq 27, 3) := by decide +kernel
theorem dX6_readTest_141 : decode cX6_readTest 141 = .ok (.aload_n 0, 1) := by decide +kernel
theorem dX6_readTest_142 : decode cX6_readTest 142 = .ok (.invokevirtual 109, 3) := by decide +kernel
theorem dX6_readTest_145 : decode cX6_readTest 145 = .ok (.ifCond .eq 20, 3) := by decide +kernel
theorem dX6_readTest_148 : decode cX6_readTest 148 = .ok (.aload_n 0, 1) := by decide +kernel
theorem dX6_readTest_149 : decode cX6_readTest 149 = .ok (.getfield 22, 3) := by decide +kernel
theorem dX6_readTest_152 : decode cX6_readTest 152 = .ok (.iconst 0, 1) := by decide +kernel
theorem dX6_readTest_153 : decode cX6_readTest 153 = .ok (.bipush 60, 2) := by decide +kernel
theorem dX6_readTest_155 : decode cX6_readTest 155 = .ok (.invokevirtual 92, 3) := by decide +kernel
theorem dX6_readTest_158 : decode cX6_readTest 158 = .ok (.ifCond .eq 7, 3) := by decide +kernel
theorem dX6_readTest_161 : decode cX6_readTest 161 = .ok (.iconst 1, 1) := by decide +kernel
theorem dX6_readTest_162 : decode cX6_readTest 162 = .ok (.goto 4, 3) := by decide +kernel
theorem dX6_readTest_165 : decode cX6_readTest 165 = .ok (.iconst 0, 1) := by decide +kernel
theorem dX6_readTest_166 : decode cX6_readTest 166 = .ok (.ireturn, 1) := by decide +kernel
theorem dX6_readTest_167 : decode cX6_readTest 167 = .ok (.aload_n 0, 1) := by decide +kernel
theorem dX6_readTest_168 : decode cX6_readTest 168 = .ok (.getfield 22, 3) := by decide +kernel
theorem dX6_readTest_171 : decode cX6_readTest 171 = .ok (.iconst 2, 1) := by decide +kernel
theorem dX6_readTest_172 : decode cX6_readTest 172 = .ok (.invokevirtual 71, 3) := by decide +kernel
theorem dX6_readTest_175 : decode cX6_readTest 175 = .ok (.ireturn, 1) := by decide +kernel
abbrev rmX6_readTest : Room := { frames := 4, cells := 0, slots := 0, locals := 87 }
set_option maxHeartbeats 4000000 in
set_option maxRecDepth 100000 in
theorem kX6_readTest (l : Launch) (D : va_G) (cy : Nat → ClassId) (h0 : Nat) (a0 : Nat → Nat) (a1 : Nat → Nat) (a2 : Nat → Nat) (a3 : Nat → Nat) (s0 : Rc) (s1 : Rc) (s2 : Rc) (s3 : Rc) (res : Int32 × Rc × Rc) (h : fX6_readTest s0 s1 s2 s3 = some res) : CZ l D cy yX6_readTest wsX6_readTest rmX6_readTest [.ref h0] (flat [WX6 cy h0 a0 s0, WX8 cy (a0 0) a1 s1, WX5 cy (a0 1) a2 s2, WX0 cy (a0 2) a3 s3]) (flat [WX6 cy h0 a0 s0, WX8 cy (a0 0) a1 res.2.1, WX5 cy (a0 1) a2 res.2.2, WX0 cy (a0 2) a3 s3]) res.1 := by
  refine CZ.of (cc := cX6_readTest) (maxL := 1) (by decide) rfl (Nat.le_of_ble_eq_true rfl) ?_
  intro p e s m args below meth c A QQ ls E hr
  obtain ⟨hx, hb, hml, hown, hts, hK, hN, hP, hD, hA, hl⟩ := E
  have hret : ∀ (pc : Nat) (H : Heap) (locs : List Loc) (ls : Array Slot) (u : Int32 × Rc × Rc), u = res → va_P D vwCl (flat [WX6 cy h0 a0 s0, WX8 cy (a0 0) a1 u.2.1, WX5 cy (a0 1) a2 u.2.2, WX0 cy (a0 2) a3 s3]) H → va_D A (flat [WX6 cy h0 a0 s0, WX8 cy (a0 0) a1 u.2.1, WX5 cy (a0 1) a2 u.2.2, WX0 cy (a0 2) a3 s3]) → va_S A s.heap H locs → isb u.1 = true → decode cX6_readTest pc = .ok (.ireturn, 1) → W p l e rmX6_readTest s m args below meth c H locs 0 0 QQ (F0 m pc ls [.int u.1]) := by
    intro pc H locs ls u hu hP hD hS hz hd; subst hu; exact hr pc H locs ls _ rfl hP hD hS hz hd
  clear hr
  have hl : lv_has ls 1 [(0, .ref h0)] := hl
  have hinX5 : ∀ w ∈ wsX50, w ∈ wsX6_readTest := fun _ h => List.mem_cons_of_mem _ (List.mem_append_left _ (List.mem_append_left _ (List.mem_append_right _ h)))
  have hinX6 : ∀ w ∈ wsX60, w ∈ wsX6_readTest := fun _ h => List.mem_cons_of_mem _ (List.mem_append_left _ (List.mem_append_left _ (List.mem_append_left _ (List.mem_append_right _ h))))
  have hinX8 : ∀ w ∈ wsX80, w ∈ wsX6_readTest := fun _ h => List.mem_cons_of_mem _ (List.mem_append_left _ (List.mem_append_right _ h))
  unfold fX6_readTest at h
  suffices key : ∀ (H : Heap) (locs : List Loc), va_P D vwCl (flat [WX6 cy h0 a0 s0, WX8 cy (a0 0) a1 s1, WX5 cy (a0 1) a2 s2, WX0 cy (a0 2) a3 s3]) H → va_S A s.heap H locs → W p l e rmX6_readTest s m args below meth c H locs 0 0 QQ (F0 m 0 ls []) from key _ _ hP va_S.rf
  clear hP
  intro H locs hP hS
  refine lv_aload_n hx hb dX6_readTest_0 rfl (lv_at hl 0 rfl) ?_
  refine va_get (D := D) (ci := 6) (v := .ref (a0 1)) (C := RX6) (T := TX6) (N := 6) hx hb hts hinX6 hown hK hP 0 rfl rfl 1 (by decide) (hts (.fieldLink RX6 26 "KneeBench$SeasonText" "draft" "LKneeBench$Season;") (List.mem_of_getElem? (i := 1) rfl)) (fun _ h9 => h9) rfl dX6_readTest_1 ?_
  refine va_getN (D := D) (ci := 5) (v := .ref (a2 0)) (C := RX5) (T := TX5) (N := 8) hx hb hts hinX5 hown hK hP 5 rfl rfl 0 (by decide) (NW.fld hN 26 rfl _) (fun _ h9 => h9) rfl dX6_readTest_4 ?_
  refine lv_aload_n hx hb dX6_readTest_7 rfl (lv_at hl 0 rfl) ?_
  refine va_get (D := D) (ci := 6) (v := .int (gi s0 5)) (C := RX6) (T := TX6) (N := 6) hx hb hts hinX6 hown hK hP 0 rfl rfl 5 (by decide) (hts (.fieldLink RX6 19 "KneeBench$SeasonText" "at" "I") (List.mem_of_getElem? (i := 2) rfl)) (fun _ h9 => h9) rfl dX6_readTest_8 ?_
  refine lv_aload_n hx hb dX6_readTest_11 rfl (lv_at hl 0 rfl) ?_
  refine va_get (D := D) (ci := 6) (v := .ref (a0 0)) (C := RX6) (T := TX6) (N := 6) hx hb hts hinX6 hown hK hP 0 rfl rfl 0 (by decide) (hts (.fieldLink RX6 22 "KneeBench$SeasonText" "tokens" "LKneeBench$Tokens;") (List.mem_of_getElem? (i := 3) rfl)) (fun _ h9 => h9) rfl dX6_readTest_12 ?_
  refine va_getN (D := D) (ci := 8) (v := .int (gi s1 8)) (C := RX8) (T := TX8) (N := 14) hx hb hts hinX8 hown hK hP 2 rfl rfl 8 (by decide) (NW.fld hN 46 rfl _) (fun _ h9 => h9) rfl dX6_readTest_15 ?_
  obtain ⟨g1, h⟩ := gd_elim h
  obtain ⟨s2_2, es, h⟩ := lt_elim h
  refine va_iast hx hb hK hP hD hS 6 1 rfl rfl (inb_in g1) dX6_readTest_18 (fun H locs hP hD hS => ?_)
  have hP : va_P D vwCl (flat [WX6 cy h0 a0 s0, WX8 cy (a0 0) a1 s1, WX5 cy (a0 1) a2 s2_2, WX0 cy (a0 2) a3 s3]) H := by rw [es]; exact hP
  have hD : va_D A (flat [WX6 cy h0 a0 s0, WX8 cy (a0 0) a1 s1, WX5 cy (a0 1) a2 s2_2, WX0 cy (a0 2) a3 s3]) := by rw [es]; exact hD
  clear es
  refine lv_aload_n hx hb dX6_readTest_19 rfl (lv_at hl 0 rfl) ?_
  refine va_get (D := D) (ci := 6) (v := .ref (a0 0)) (C := RX6) (T := TX6) (N := 6) hx hb hts hinX6 hown hK hP 0 rfl rfl 0 (by decide) (hts (.fieldLink RX6 22 "KneeBench$SeasonText" "tokens" "LKneeBench$Tokens;") (List.mem_of_getElem? (i := 3) rfl)) (fun _ h9 => h9) rfl dX6_readTest_20 ?_
  refine va_getN (D := D) (ci := 8) (v := .int (gi s1 8)) (C := RX8) (T := TX8) (N := 14) hx hb hts hinX8 hown hK hP 2 rfl rfl 8 (by decide) (NW.fld hN 46 rfl _) (fun _ h9 => h9) rfl dX6_readTest_23 ?_
  by_cases c3 : (gi s1 8) = (24 : Int32)
  · replace h := (if_pos c3).symm.trans h
    refine lv_tableIn (tgt := 52) hx hb dX6_readTest_26 (by rw [c3]; decide) (by rw [c3]; decide) (by rw [c3]; rfl) (by decide) ?_
    refine lv_aload_n hx hb dX6_readTest_52 rfl (lv_at hl 0 rfl) ?_
    refine va_get (D := D) (ci := 6) (v := .ref (a0 0)) (C := RX6) (T := TX6) (N := 6) hx hb hts hinX6 hown hK hP 0 rfl rfl 0 (by decide) (hts (.fieldLink RX6 22 "KneeBench$SeasonText" "tokens" "LKneeBench$Tokens;") (List.mem_of_getElem? (i := 3) rfl)) (fun _ h9 => h9) rfl dX6_readTest_53 ?_
    obtain ⟨r4, hr4, h⟩ := bd_elim h
    refine ca_z (w' := [WX6 cy h0 a0 s0, WX8 cy (a0 0) a1 r4.2, WX5 cy (a0 1) a2 s2_2, WX0 cy (a0 2) a3 s3]) (rn_V (As := []) (rest := []) ⟨hx, hb, hml, hown, hts⟩ (kX8_advance l D cy (a0 0) a1 s1 r4 hr4 H.size) (cwV 0 hts gX6_readTest_X8_advance rfl rfl rfl (by decide +kernel) ⟨Nat.le_of_ble_eq_true rfl, Nat.le_of_ble_eq_true rfl⟩) hK hN hP hD [1] rfl rfl (ci := 8) (q0 := 2) rfl rfl rfl rfl hl.1 rfl (Nat.le_of_ble_eq_true rfl) dX6_readTest_56 ⟨Nat.le_refl 0, Nat.le_refl 0⟩) hP hD hS hA [1] ⟨rfl, rfl, rfl, rfl⟩ (fun b5 H locs hP hD hS => ?_)
    refine lv_if_eq (tgt := 79) hx hb dX6_readTest_59 (by decide) (fun c6 => ?_) (fun c6 => ?_)
    · replace h := (if_pos c6).symm.trans h
      refine lv_iconst (v := 0) hx hb dX6_readTest_79 (by decide) ?_
      exact hret 80 H locs ls ((0 : Int32), r4.2, s2_2) (Option.some.inj h) hP hD hS (show isb (0 : Int32) = true by decide) dX6_readTest_80
    · replace h := (if_neg c6).symm.trans h
      refine lv_aload_n hx hb dX6_readTest_62 rfl (lv_at hl 0 rfl) ?_
      refine va_get (D := D) (ci := 6) (v := .ref (a0 0)) (C := RX6) (T := TX6) (N := 6) hx hb hts hinX6 hown hK hP 0 rfl rfl 0 (by decide) (hts (.fieldLink RX6 22 "KneeBench$SeasonText" "tokens" "LKneeBench$Tokens;") (List.mem_of_getElem? (i := 3) rfl)) (fun _ h9 => h9) rfl dX6_readTest_63 ?_
      refine lv_iconst (v := 0) hx hb dX6_readTest_66 (by decide) ?_
      refine lv_bipush (v := 62) hx hb dX6_readTest_67 (by decide) ?_
      obtain ⟨r7, hr7, h⟩ := bd_elim h
      refine ca_z (w' := [WX6 cy h0 a0 s0, WX8 cy (a0 0) a1 r7.2, WX5 cy (a0 1) a2 s2_2, WX0 cy (a0 2) a3 s3]) (rn_V (As := [.int (0 : Int32), .int (62 : Int32)]) (rest := []) ⟨hx, hb, hml, hown, hts⟩ (kX8_passNumber l D cy (a0 0) a1 r4.2 (0 : Int32) (62 : Int32) r7 hr7 H.size) (cwV 2 hts gX6_readTest_X8_passNumber rfl rfl rfl (by decide +kernel) ⟨Nat.le_of_ble_eq_true rfl, Nat.le_of_ble_eq_true rfl⟩) hK hN hP hD [1] rfl rfl (ci := 8) (q0 := 2) rfl rfl rfl rfl hl.1 rfl (Nat.le_of_ble_eq_true rfl) dX6_readTest_69 ⟨Nat.le_refl 0, Nat.le_refl 0⟩) hP hD hS hA [1] ⟨rfl, rfl, rfl, rfl⟩ (fun b8 H locs hP hD hS => ?_)
      refine lv_if_eq (tgt := 79) hx hb dX6_readTest_72 (by decide) (fun c9 => ?_) (fun c9 => ?_)
      · replace h := (if_pos c9).symm.trans h
        refine lv_iconst (v := 0) hx hb dX6_readTest_79 (by decide) ?_
        exact hret 80 H locs ls ((0 : Int32), r7.2, s2_2) (Option.some.inj h) hP hD hS (show isb (0 : Int32) = true by decide) dX6_readTest_80
      · replace h := (if_neg c9).symm.trans h
        refine lv_iconst (v := 1) hx hb dX6_readTest_75 (by decide) ?_
        refine lv_goto (tgt := 80) hx hb dX6_readTest_76 (by decide) ?_
        exact hret 80 H locs ls ((1 : Int32), r7.2, s2_2) (Option.some.inj h) hP hD hS (show isb (1 : Int32) = true by decide) dX6_readTest_80
  replace h := (if_neg c3).symm.trans h
  by_cases c10 : (gi s1 8) = (25 : Int32)
  · replace h := (if_pos c10).symm.trans h
    refine lv_tableIn (tgt := 81) hx hb dX6_readTest_26 (by rw [c10]; decide) (by rw [c10]; decide) (by rw [c10]; rfl) (by decide) ?_
    refine lv_aload_n hx hb dX6_readTest_81 rfl (lv_at hl 0 rfl) ?_
    refine va_get (D := D) (ci := 6) (v := .ref (a0 0)) (C := RX6) (T := TX6) (N := 6) hx hb hts hinX6 hown hK hP 0 rfl rfl 0 (by decide) (hts (.fieldLink RX6 22 "KneeBench$SeasonText" "tokens" "LKneeBench$Tokens;") (List.mem_of_getElem? (i := 3) rfl)) (fun _ h9 => h9) rfl dX6_readTest_82 ?_
    obtain ⟨r11, hr11, h⟩ := bd_elim h
    refine ca_z (w' := [WX6 cy h0 a0 s0, WX8 cy (a0 0) a1 r11.2, WX5 cy (a0 1) a2 s2_2, WX0 cy (a0 2) a3 s3]) (rn_V (As := []) (rest := []) ⟨hx, hb, hml, hown, hts⟩ (kX8_advance l D cy (a0 0) a1 s1 r11 hr11 H.size) (cwV 0 hts gX6_readTest_X8_advance rfl rfl rfl (by decide +kernel) ⟨Nat.le_of_ble_eq_true rfl, Nat.le_of_ble_eq_true rfl⟩) hK hN hP hD [1] rfl rfl (ci := 8) (q0 := 2) rfl rfl rfl rfl hl.1 rfl (Nat.le_of_ble_eq_true rfl) dX6_readTest_85 ⟨Nat.le_refl 0, Nat.le_refl 0⟩) hP hD hS hA [1] ⟨rfl, rfl, rfl, rfl⟩ (fun b12 H locs hP hD hS => ?_)
    refine lv_if_eq (tgt := 129) hx hb dX6_readTest_88 (by decide) (fun c13 => ?_) (fun c13 => ?_)
    · replace h := (if_pos c13).symm.trans h
      refine lv_iconst (v := 0) hx hb dX6_readTest_129 (by decide) ?_
      exact hret 130 H locs ls ((0 : Int32), r11.2, s2_2) (Option.some.inj h) hP hD hS (show isb (0 : Int32) = true by decide) dX6_readTest_130
    · replace h := (if_neg c13).symm.trans h
      refine lv_aload_n hx hb dX6_readTest_91 rfl (lv_at hl 0 rfl) ?_
      refine va_get (D := D) (ci := 6) (v := .ref (a0 0)) (C := RX6) (T := TX6) (N := 6) hx hb hts hinX6 hown hK hP 0 rfl rfl 0 (by decide) (hts (.fieldLink RX6 22 "KneeBench$SeasonText" "tokens" "LKneeBench$Tokens;") (List.mem_of_getElem? (i := 3) rfl)) (fun _ h9 => h9) rfl dX6_readTest_92 ?_
      refine lv_aload_n hx hb dX6_readTest_95 rfl (lv_at hl 0 rfl) ?_
      refine va_get (D := D) (ci := 6) (v := .ref (a0 2)) (C := RX6) (T := TX6) (N := 6) hx hb hts hinX6 hown hK hP 0 rfl rfl 2 (by decide) (hts (.fieldLink RX6 30 "KneeBench$SeasonText" "bench" "LKneeBench$Bench;") (List.mem_of_getElem? (i := 4) rfl)) (fun _ h9 => h9) rfl dX6_readTest_96 ?_
      obtain ⟨r14, hr14, h⟩ := bd_elim h
      refine ca_z (w' := [WX6 cy h0 a0 s0, WX8 cy (a0 0) a1 r14.2, WX5 cy (a0 1) a2 s2_2, WX0 cy (a0 2) a3 s3]) (rn_V (As := [.ref (a0 2)]) (rest := []) ⟨hx, hb, hml, hown, hts⟩ (kX8_passFarmer l D cy (a0 0) (a0 2) a1 a3 r11.2 s3 r14 hr14 H.size) (cwV 1 hts gX6_readTest_X8_passFarmer rfl rfl rfl (by decide +kernel) ⟨Nat.le_of_ble_eq_true rfl, Nat.le_of_ble_eq_true rfl⟩) hK hN hP hD [1, 3] rfl rfl (ci := 8) (q0 := 2) rfl rfl rfl rfl hl.1 rfl (Nat.le_of_ble_eq_true rfl) dX6_readTest_99 ⟨Nat.le_refl 0, Nat.le_refl 0⟩) hP hD hS hA [1, 3] ⟨rfl, rfl, rfl, rfl⟩ (fun b15 H locs hP hD hS => ?_)
      refine lv_if_eq (tgt := 129) hx hb dX6_readTest_102 (by decide) (fun c16 => ?_) (fun c16 => ?_)
      · replace h := (if_pos c16).symm.trans h
        refine lv_iconst (v := 0) hx hb dX6_readTest_129 (by decide) ?_
        exact hret 130 H locs ls ((0 : Int32), r14.2, s2_2) (Option.some.inj h) hP hD hS (show isb (0 : Int32) = true by decide) dX6_readTest_130
      · replace h := (if_neg c16).symm.trans h
        refine lv_aload_n hx hb dX6_readTest_105 rfl (lv_at hl 0 rfl) ?_
        obtain ⟨r17, hr17, h⟩ := bd_elim h
        refine ca_z (w' := [WX6 cy h0 a0 s0, WX8 cy (a0 0) a1 r17.2.1, WX5 cy (a0 1) a2 r17.2.2, WX0 cy (a0 2) a3 s3]) (rn_V (As := []) (rest := []) ⟨hx, hb, hml, hown, hts⟩ (kX6_readSign l D cy h0 a0 a1 a2 s0 r14.2 s2_2 r17 hr17 H.size) (cwV 0 hts gX6_readTest_X6_readSign rfl rfl rfl (by decide +kernel) ⟨Nat.le_of_ble_eq_true rfl, Nat.le_of_ble_eq_true rfl⟩) hK hN hP hD [0, 1, 2] rfl rfl (ci := 6) (q0 := 0) rfl rfl rfl rfl hl.1 rfl (Nat.le_of_ble_eq_true rfl) dX6_readTest_106 ⟨Nat.le_refl 0, Nat.le_refl 0⟩) hP hD hS hA [0, 1, 2] ⟨rfl, rfl, rfl, rfl⟩ (fun b18 H locs hP hD hS => ?_)
        refine lv_if_eq (tgt := 129) hx hb dX6_readTest_109 (by decide) (fun c19 => ?_) (fun c19 => ?_)
        · replace h := (if_pos c19).symm.trans h
          refine lv_iconst (v := 0) hx hb dX6_readTest_129 (by decide) ?_
          exact hret 130 H locs ls ((0 : Int32), r17.2.1, r17.2.2) (Option.some.inj h) hP hD hS (show isb (0 : Int32) = true by decide) dX6_readTest_130
        · replace h := (if_neg c19).symm.trans h
          refine lv_aload_n hx hb dX6_readTest_112 rfl (lv_at hl 0 rfl) ?_
          refine va_get (D := D) (ci := 6) (v := .ref (a0 0)) (C := RX6) (T := TX6) (N := 6) hx hb hts hinX6 hown hK hP 0 rfl rfl 0 (by decide) (hts (.fieldLink RX6 22 "KneeBench$SeasonText" "tokens" "LKneeBench$Tokens;") (List.mem_of_getElem? (i := 3) rfl)) (fun _ h9 => h9) rfl dX6_readTest_113 ?_
          refine lv_iconst (v := 0) hx hb dX6_readTest_116 (by decide) ?_
          refine lv_bipush (v := 64) hx hb dX6_readTest_117 (by decide) ?_
          obtain ⟨r20, hr20, h⟩ := bd_elim h
          refine ca_z (w' := [WX6 cy h0 a0 s0, WX8 cy (a0 0) a1 r20.2, WX5 cy (a0 1) a2 r17.2.2, WX0 cy (a0 2) a3 s3]) (rn_V (As := [.int (0 : Int32), .int (64 : Int32)]) (rest := []) ⟨hx, hb, hml, hown, hts⟩ (kX8_passNumber l D cy (a0 0) a1 r17.2.1 (0 : Int32) (64 : Int32) r20 hr20 H.size) (cwV 2 hts gX6_readTest_X8_passNumber rfl rfl rfl (by decide +kernel) ⟨Nat.le_of_ble_eq_true rfl, Nat.le_of_ble_eq_true rfl⟩) hK hN hP hD [1] rfl rfl (ci := 8) (q0 := 2) rfl rfl rfl rfl hl.1 rfl (Nat.le_of_ble_eq_true rfl) dX6_readTest_119 ⟨Nat.le_refl 0, Nat.le_refl 0⟩) hP hD hS hA [1] ⟨rfl, rfl, rfl, rfl⟩ (fun b21 H locs hP hD hS => ?_)
          refine lv_if_eq (tgt := 129) hx hb dX6_readTest_122 (by decide) (fun c22 => ?_) (fun c22 => ?_)
          · replace h := (if_pos c22).symm.trans h
            refine lv_iconst (v := 0) hx hb dX6_readTest_129 (by decide) ?_
            exact hret 130 H locs ls ((0 : Int32), r20.2, r17.2.2) (Option.some.inj h) hP hD hS (show isb (0 : Int32) = true by decide) dX6_readTest_130
          · replace h := (if_neg c22).symm.trans h
            refine lv_iconst (v := 1) hx hb dX6_readTest_125 (by decide) ?_
            refine lv_goto (tgt := 130) hx hb dX6_readTest_126 (by decide) ?_
            exact hret 130 H locs ls ((1 : Int32), r20.2, r17.2.2) (Option.some.inj h) hP hD hS (show isb (1 : Int32) = true by decide) dX6_readTest_130
  replace h := (if_neg c10).symm.trans h
  by_cases c23 : (gi s1 8) = (26 : Int32)
  · replace h := (if_pos c23).symm.trans h
    refine lv_tableIn (tgt := 131) hx hb dX6_readTest_26 (by rw [c23]; decide) (by rw [c23]; decide) (by rw [c23]; rfl) (by decide) ?_
    refine lv_aload_n hx hb dX6_readTest_131 rfl (lv_at hl 0 rfl) ?_
    refine va_get (D := D) (ci := 6) (v := .ref (a0 0)) (C := RX6) (T := TX6) (N := 6) hx hb hts hinX6 hown hK hP 0 rfl rfl 0 (by decide) (hts (.fieldLink RX6 22 "KneeBench$SeasonText" "tokens" "LKneeBench$Tokens;") (List.mem_of_getElem? (i := 3) rfl)) (fun _ h9 => h9) rfl dX6_readTest_132 ?_
    obtain ⟨r24, hr24, h⟩ := bd_elim h
    refine ca_z (w' := [WX6 cy h0 a0 s0, WX8 cy (a0 0) a1 r24.2, WX5 cy (a0 1) a2 s2_2, WX0 cy (a0 2) a3 s3]) (rn_V (As := []) (rest := []) ⟨hx, hb, hml, hown, hts⟩ (kX8_advance l D cy (a0 0) a1 s1 r24 hr24 H.size) (cwV 0 hts gX6_readTest_X8_advance rfl rfl rfl (by decide +kernel) ⟨Nat.le_of_ble_eq_true rfl, Nat.le_of_ble_eq_true rfl⟩) hK hN hP hD [1] rfl rfl (ci := 8) (q0 := 2) rfl rfl rfl rfl hl.1 rfl (Nat.le_of_ble_eq_true rfl) dX6_readTest_135 ⟨Nat.le_refl 0, Nat.le_refl 0⟩) hP hD hS hA [1] ⟨rfl, rfl, rfl, rfl⟩ (fun b25 H locs hP hD hS => ?_)
    refine lv_if_eq (tgt := 165) hx hb dX6_readTest_138 (by decide) (fun c26 => ?_) (fun c26 => ?_)
    · replace h := (if_pos c26).symm.trans h
      refine lv_iconst (v := 0) hx hb dX6_readTest_165 (by decide) ?_
      exact hret 166 H locs ls ((0 : Int32), r24.2, s2_2) (Option.some.inj h) hP hD hS (show isb (0 : Int32) = true by decide) dX6_readTest_166
    · replace h := (if_neg c26).symm.trans h
      refine lv_aload_n hx hb dX6_readTest_141 rfl (lv_at hl 0 rfl) ?_
      obtain ⟨r27, hr27, h⟩ := bd_elim h
      refine ca_z (w' := [WX6 cy h0 a0 s0, WX8 cy (a0 0) a1 r27.2.1, WX5 cy (a0 1) a2 r27.2.2, WX0 cy (a0 2) a3 s3]) (rn_V (As := []) (rest := []) ⟨hx, hb, hml, hown, hts⟩ (kX6_readSign l D cy h0 a0 a1 a2 s0 r24.2 s2_2 r27 hr27 H.size) (cwV 0 hts gX6_readTest_X6_readSign rfl rfl rfl (by decide +kernel) ⟨Nat.le_of_ble_eq_true rfl, Nat.le_of_ble_eq_true rfl⟩) hK hN hP hD [0, 1, 2] rfl rfl (ci := 6) (q0 := 0) rfl rfl rfl rfl hl.1 rfl (Nat.le_of_ble_eq_true rfl) dX6_readTest_142 ⟨Nat.le_refl 0, Nat.le_refl 0⟩) hP hD hS hA [0, 1, 2] ⟨rfl, rfl, rfl, rfl⟩ (fun b28 H locs hP hD hS => ?_)
      refine lv_if_eq (tgt := 165) hx hb dX6_readTest_145 (by decide) (fun c29 => ?_) (fun c29 => ?_)
      · replace h := (if_pos c29).symm.trans h
        refine lv_iconst (v := 0) hx hb dX6_readTest_165 (by decide) ?_
        exact hret 166 H locs ls ((0 : Int32), r27.2.1, r27.2.2) (Option.some.inj h) hP hD hS (show isb (0 : Int32) = true by decide) dX6_readTest_166
      · replace h := (if_neg c29).symm.trans h
        refine lv_aload_n hx hb dX6_readTest_148 rfl (lv_at hl 0 rfl) ?_
        refine va_get (D := D) (ci := 6) (v := .ref (a0 0)) (C := RX6) (T := TX6) (N := 6) hx hb hts hinX6 hown hK hP 0 rfl rfl 0 (by decide) (hts (.fieldLink RX6 22 "KneeBench$SeasonText" "tokens" "LKneeBench$Tokens;") (List.mem_of_getElem? (i := 3) rfl)) (fun _ h9 => h9) rfl dX6_readTest_149 ?_
        refine lv_iconst (v := 0) hx hb dX6_readTest_152 (by decide) ?_
        refine lv_bipush (v := 60) hx hb dX6_readTest_153 (by decide) ?_
        obtain ⟨r30, hr30, h⟩ := bd_elim h
        refine ca_z (w' := [WX6 cy h0 a0 s0, WX8 cy (a0 0) a1 r30.2, WX5 cy (a0 1) a2 r27.2.2, WX0 cy (a0 2) a3 s3]) (rn_V (As := [.int (0 : Int32), .int (60 : Int32)]) (rest := []) ⟨hx, hb, hml, hown, hts⟩ (kX8_passNumber l D cy (a0 0) a1 r27.2.1 (0 : Int32) (60 : Int32) r30 hr30 H.size) (cwV 2 hts gX6_readTest_X8_passNumber rfl rfl rfl (by decide +kernel) ⟨Nat.le_of_ble_eq_true rfl, Nat.le_of_ble_eq_true rfl⟩) hK hN hP hD [1] rfl rfl (ci := 8) (q0 := 2) rfl rfl rfl rfl hl.1 rfl (Nat.le_of_ble_eq_true rfl) dX6_readTest_155 ⟨Nat.le_refl 0, Nat.le_refl 0⟩) hP hD hS hA [1] ⟨rfl, rfl, rfl, rfl⟩ (fun b31 H locs hP hD hS => ?_)
        refine lv_if_eq (tgt := 165) hx hb dX6_readTest_158 (by decide) (fun c32 => ?_) (fun c32 => ?_)
        · replace h := (if_pos c32).symm.trans h
          refine lv_iconst (v := 0) hx hb dX6_readTest_165 (by decide) ?_
          exact hret 166 H locs ls ((0 : Int32), r30.2, r27.2.2) (Option.some.inj h) hP hD hS (show isb (0 : Int32) = true by decide) dX6_readTest_166
        · replace h := (if_neg c32).symm.trans h
          refine lv_iconst (v := 1) hx hb dX6_readTest_161 (by decide) ?_
          refine lv_goto (tgt := 166) hx hb dX6_readTest_162 (by decide) ?_
          exact hret 166 H locs ls ((1 : Int32), r30.2, r27.2.2) (Option.some.inj h) hP hD hS (show isb (1 : Int32) = true by decide) dX6_readTest_166
  replace h := (if_neg c23).symm.trans h
  have ic3 : (gi s1 8).toInt ≠ 24 := fun z => c3 (Int32.toInt_inj.mp (z.trans (by decide)))
  have ic10 : (gi s1 8).toInt ≠ 25 := fun z => c10 (Int32.toInt_inj.mp (z.trans (by decide)))
  have ic23 : (gi s1 8).toInt ≠ 26 := fun z => c23 (Int32.toInt_inj.mp (z.trans (by decide)))
  have hsw : (gi s1 8).toInt < 24 ∨ 26 < (gi s1 8).toInt := by omega
  refine lv_tdf (tgt := 167) hx hb dX6_readTest_26 ?_ (by decide) ?_
  · rcases hsw with z | z
    · exact Or.inl z
    · exact Or.inr (Or.inl z)
  refine lv_aload_n hx hb dX6_readTest_167 rfl (lv_at hl 0 rfl) ?_
  refine va_get (D := D) (ci := 6) (v := .ref (a0 0)) (C := RX6) (T := TX6) (N := 6) hx hb hts hinX6 hown hK hP 0 rfl rfl 0 (by decide) (hts (.fieldLink RX6 22 "KneeBench$SeasonText" "tokens" "LKneeBench$Tokens;") (List.mem_of_getElem? (i := 3) rfl)) (fun _ h9 => h9) rfl dX6_readTest_168 ?_
  refine lv_iconst (v := 2) hx hb dX6_readTest_171 (by decide) ?_
  obtain ⟨r33, hr33, h⟩ := lt_elim h
  refine ca_z (w' := [WX6 cy h0 a0 s0, WX8 cy (a0 0) a1 r33.2, WX5 cy (a0 1) a2 s2_2, WX0 cy (a0 2) a3 s3]) (rn_V (As := [.int (2 : Int32)]) (rest := []) ⟨hx, hb, hml, hown, hts⟩ (kX8_fail l D cy (a0 0) a1 s1 (2 : Int32) r33 hr33.symm H.size) (cwV 1 hts gX6_readTest_X8_fail rfl rfl rfl (by decide +kernel) ⟨Nat.le_of_ble_eq_true rfl, Nat.le_of_ble_eq_true rfl⟩) hK hN hP hD [1] rfl rfl (ci := 8) (q0 := 2) rfl rfl rfl rfl hl.1 rfl (Nat.le_of_ble_eq_true rfl) dX6_readTest_172 ⟨Nat.le_refl 0, Nat.le_refl 0⟩) hP hD hS hA [1] ⟨rfl, rfl, rfl, rfl⟩ (fun b34 H locs hP hD hS => ?_)
  exact hret 175 H locs ls (r33.1, r33.2, s2_2) (Option.some.inj h) hP hD hS b34 dX6_readTest_175
set_option maxRecDepth 20000 in
theorem ggX6_readRest_X8_passNumber : GoodIn wsX6_readRest wsX8_passNumber := goodIn_r _ [9, 10, 11, 12, 13, 14, 15, 8, 16, 17, 18, 19, 20, 21, 22, 23, 24, 25, 26, 27, 28, 29, 30, 31, 32, 33, 34, 35, 36, 37, 38, 39, 40, 41, 42, 43, 44, 45, 46, 47, 105, 106, 107, 108, 109, 110, 111, 112, 113, 114, 115, 116, 117, 118] (by decide +kernel) (by decide +kernel)
set_option maxRecDepth 20000 in
theorem gX6_readRest_X8_passNumber : GoodIn wsX6_readRest (wsV RX6 92 RX8 yX8_passNumber wsX8_passNumber) := goodIn_app (goodIn_of _ (by decide +kernel)) ggX6_readRest_X8_passNumber
set_option maxRecDepth 20000 in
theorem ggX6_readRest_X6_readFarmerOn : GoodIn wsX6_readRest wsX6_readFarmerOn := goodIn_r _ [52, 3, 4, 53, 54, 55, 8, 56, 57, 58, 59, 60, 31, 61, 62, 63, 64, 65, 10, 30, 32, 13, 14, 15, 16, 17, 18, 19, 66, 67, 68, 69, 70, 71, 72, 23, 24, 25, 26, 27, 28, 29, 11, 33, 34, 35, 36, 37, 38, 39, 40, 41, 42, 43, 44, 45, 46, 47, 73, 74, 75, 76, 91, 92, 93, 94, 95, 96, 105, 106, 107, 108, 109, 110, 111, 112, 113, 114, 115, 116, 117, 118, 119, 120, 121, 122, 123, 124, 125, 126, 127, 128, 129, 130, 131, 132] (by decide +kernel) (by decide +kernel)
set_option maxRecDepth 20000 in
theorem gX6_readRest_X6_readFarmerOn : GoodIn wsX6_readRest (wsV RX6 96 RX6 yX6_readFarmerOn wsX6_readFarmerOn) := goodIn_app (goodIn_of _ (by decide +kernel)) ggX6_readRest_X6_readFarmerOn
set_option maxRecDepth 20000 in
theorem ggX6_readRest_X8_passFarmer : GoodIn wsX6_readRest wsX8_passFarmer := goodIn_r _ [56, 57, 58, 59, 8, 60, 31, 61, 62, 63, 64, 65, 10, 30, 32, 13, 14, 15, 16, 17, 18, 19, 66, 67, 68, 69, 70, 71, 72, 23, 24, 25, 26, 27, 28, 29, 11, 33, 34, 35, 36, 37, 38, 39, 40, 41, 42, 43, 44, 45, 46, 47, 105, 106, 107, 108, 109, 110, 111, 112, 113, 114, 115, 116, 117, 118, 119, 120, 121, 122, 123, 124, 125, 126, 127, 128, 129, 130, 131, 132] (by decide +kernel) (by decide +kernel)
set_option maxRecDepth 20000 in
theorem gX6_readRest_X8_passFarmer : GoodIn wsX6_readRest (wsV RX6 99 RX8 yX8_passFarmer wsX8_passFarmer) := goodIn_app (goodIn_of _ (by decide +kernel)) ggX6_readRest_X8_passFarmer
set_option maxRecDepth 20000 in
theorem ggX6_readRest_X6_readTest : GoodIn wsX6_readRest wsX6_readTest := goodIn_r _ [80, 1, 2, 3, 4, 81, 24, 25, 8, 26, 27, 18, 28, 29, 10, 30, 31, 32, 11, 33, 34, 35, 36, 37, 38, 39, 40, 41, 42, 43, 44, 45, 46, 47, 13, 14, 15, 16, 17, 19, 5, 6, 7, 9, 12, 20, 21, 22, 23, 53, 54, 55, 56, 57, 58, 59, 60, 61, 62, 63, 64, 65, 66, 67, 68, 69, 70, 71, 72, 82, 83, 84, 51, 85, 86, 87, 88, 89, 90, 91, 92, 93, 94, 95, 96, 97, 98, 99, 100, 101, 102, 103, 104, 105, 106, 107, 108, 109, 110, 111, 112, 113, 114, 115, 116, 117, 118, 119, 120, 121, 122, 123, 124, 125, 126, 127, 128, 129, 130, 131, 132] (by decide +kernel) (by decide +kernel)
set_option maxRecDepth 20000 in
theorem gX6_readRest_X6_readTest : GoodIn wsX6_readRest (wsV RX6 103 RX6 yX6_readTest wsX6_readTest) := goodIn_app (goodIn_of _ (by decide +kernel)) ggX6_readRest_X6_readTest
theorem dX6_readRest_0 : decode cX6_readRest 0 = .ok (.aload_n 0, 1) := by decide +kernel
theorem dX6_readRest_1 : decode cX6_readRest 1 = .ok (.getfield 26, 3) := by decide +kernel
theorem dX6_readRest_4 : decode cX6_readRest 4 = .ok (.getfield 77, 3) := by decide +kernel
theorem dX6_readRest_7 : decode cX6_readRest 7 = .ok (.aload_n 0, 1) := by decide +kernel
theorem dX6_readRest_8 : decode cX6_readRest 8 = .ok (.getfield 19, 3) := by decide +kernel
theorem dX6_readRest_11 : decode cX6_readRest 11 = .ok (.iaload, 1) := by decide +kernel
theorem dX6_readRest_12 : decode cX6_readRest 12 = .ok (.tableswitch 195 14 27 #[72, 195, 195, 195, 83, 195, 109, 135, 168, 190, 195, 195, 195, 179], 72) := by decide +kernel
theorem dX6_readRest_84 : decode cX6_readRest 84 = .ok (.aload_n 0, 1) := by decide +kernel
theorem dX6_readRest_85 : decode cX6_readRest 85 = .ok (.getfield 22, 3) := by decide +kernel
theorem dX6_readRest_88 : decode cX6_readRest 88 = .ok (.iconst 0, 1) := by decide +kernel
theorem dX6_readRest_89 : decode cX6_readRest 89 = .ok (.bipush 16, 2) := by decide +kernel
theorem dX6_readRest_91 : decode cX6_readRest 91 = .ok (.invokevirtual 92, 3) := by decide +kernel
theorem dX6_readRest_94 : decode cX6_readRest 94 = .ok (.ireturn, 1) := by decide +kernel
theorem dX6_readRest_95 : decode cX6_readRest 95 = .ok (.aload_n 0, 1) := by decide +kernel
theorem dX6_readRest_96 : decode cX6_readRest 96 = .ok (.invokevirtual 96, 3) := by decide +kernel
theorem dX6_readRest_99 : decode cX6_readRest 99 = .ok (.ifCond .eq 20, 3) := by decide +kernel
theorem dX6_readRest_102 : decode cX6_readRest 102 = .ok (.aload_n 0, 1) := by decide +kernel
theorem dX6_readRest_103 : decode cX6_readRest 103 = .ok (.getfield 22, 3) := by decide +kernel
theorem dX6_readRest_106 : decode cX6_readRest 106 = .ok (.iconst 0, 1) := by decide +kernel
theorem dX6_readRest_107 : decode cX6_readRest 107 = .ok (.bipush 59, 2) := by decide +kernel
theorem dX6_readRest_109 : decode cX6_readRest 109 = .ok (.invokevirtual 92, 3) := by decide +kernel
theorem dX6_readRest_112 : decode cX6_readRest 112 = .ok (.ifCond .eq 7, 3) := by decide +kernel
theorem dX6_readRest_115 : decode cX6_readRest 115 = .ok (.iconst 1, 1) := by decide +kernel
theorem dX6_readRest_116 : decode cX6_readRest 116 = .ok (.goto 4, 3) := by decide +kernel
theorem dX6_readRest_119 : decode cX6_readRest 119 = .ok (.iconst 0, 1) := by decide +kernel
theorem dX6_readRest_120 : decode cX6_readRest 120 = .ok (.ireturn, 1) := by decide +kernel
theorem dX6_readRest_121 : decode cX6_readRest 121 = .ok (.aload_n 0, 1) := by decide +kernel
theorem dX6_readRest_122 : decode cX6_readRest 122 = .ok (.invokevirtual 96, 3) := by decide +kernel
theorem dX6_readRest_125 : decode cX6_readRest 125 = .ok (.ifCond .eq 20, 3) := by decide +kernel
theorem dX6_readRest_128 : decode cX6_readRest 128 = .ok (.aload_n 0, 1) := by decide +kernel
theorem dX6_readRest_129 : decode cX6_readRest 129 = .ok (.getfield 22, 3) := by decide +kernel
theorem dX6_readRest_132 : decode cX6_readRest 132 = .ok (.iconst 0, 1) := by decide +kernel
theorem dX6_readRest_133 : decode cX6_readRest 133 = .ok (.bipush 60, 2) := by decide +kernel
theorem dX6_readRest_135 : decode cX6_readRest 135 = .ok (.invokevirtual 92, 3) := by decide +kernel
theorem dX6_readRest_138 : decode cX6_readRest 138 = .ok (.ifCond .eq 7, 3) := by decide +kernel
theorem dX6_readRest_141 : decode cX6_readRest 141 = .ok (.iconst 1, 1) := by decide +kernel
theorem dX6_readRest_142 : decode cX6_readRest 142 = .ok (.goto 4, 3) := by decide +kernel
theorem dX6_readRest_145 : decode cX6_readRest 145 = .ok (.iconst 0, 1) := by decide +kernel
theorem dX6_readRest_146 : decode cX6_readRest 146 = .ok (.ireturn, 1) := by decide +kernel
theorem dX6_readRest_147 : decode cX6_readRest 147 = .ok (.aload_n 0, 1) := by decide +kernel
theorem dX6_readRest_148 : decode cX6_readRest 148 = .ok (.getfield 22, 3) := by decide +kernel
theorem dX6_readRest_151 : decode cX6_readRest 151 = .ok (.aload_n 0, 1) := by decide +kernel
theorem dX6_readRest_152 : decode cX6_readRest 152 = .ok (.getfield 30, 3) := by decide +kernel
theorem dX6_readRest_155 : decode cX6_readRest 155 = .ok (.invokevirtual 99, 3) := by decide +kernel
theorem dX6_readRest_158 : decode cX6_readRest 158 = .ok (.ifCond .eq 20, 3) := by decide +kernel
theorem dX6_readRest_161 : decode cX6_readRest 161 = .ok (.aload_n 0, 1) := by decide +kernel
theorem dX6_readRest_162 : decode cX6_readRest 162 = .ok (.getfield 22, 3) := by decide +kernel
theorem dX6_readRest_165 : decode cX6_readRest 165 = .ok (.iconst 0, 1) := by decide +kernel
theorem dX6_readRest_166 : decode cX6_readRest 166 = .ok (.bipush 16, 2) := by decide +kernel
theorem dX6_readRest_168 : decode cX6_readRest 168 = .ok (.invokevirtual 92, 3) := by decide +kernel
theorem dX6_readRest_171 : decode cX6_readRest 171 = .ok (.ifCond .eq 7, 3) := by decide +kernel
theorem dX6_readRest_174 : decode cX6_readRest 174 = .ok (.iconst 1, 1) := by decide +kernel
theorem dX6_readRest_175 : decode cX6_readRest 175 = .ok (.goto 4, 3) := by decide +kernel
theorem dX6_readRest_178 : decode cX6_readRest 178 = .ok (.iconst 0, 1) := by decide +kernel
theorem dX6_readRest_179 : decode cX6_readRest 179 = .ok (.ireturn, 1) := by decide +kernel
theorem dX6_readRest_180 : decode cX6_readRest 180 = .ok (.aload_n 0, 1) := by decide +kernel
theorem dX6_readRest_181 : decode cX6_readRest 181 = .ok (.getfield 22, 3) := by decide +kernel
theorem dX6_readRest_184 : decode cX6_readRest 184 = .ok (.iconst 0, 1) := by decide +kernel
theorem dX6_readRest_185 : decode cX6_readRest 185 = .ok (.bipush 59, 2) := by decide +kernel
theorem dX6_readRest_187 : decode cX6_readRest 187 = .ok (.invokevirtual 92, 3) := by decide +kernel
theorem dX6_readRest_190 : decode cX6_readRest 190 = .ok (.ireturn, 1) := by decide +kernel
theorem dX6_readRest_191 : decode cX6_readRest 191 = .ok (.aload_n 0, 1) := by decide +kernel
theorem dX6_readRest_192 : decode cX6_readRest 192 = .ok (.getfield 22, 3) := by decide +kernel
theorem dX6_readRest_195 : decode cX6_readRest 195 = .ok (.iconst 1, 1) := by decide +kernel
theorem dX6_readRest_196 : decode cX6_readRest 196 = .ok (.bipush 99, 2) := by decide +kernel
theorem dX6_readRest_198 : decode cX6_readRest 198 = .ok (.invokevirtual 92, 3) := by decide +kernel
theorem dX6_readRest_201 : decode cX6_readRest 201 = .ok (.ireturn, 1) := by decide +kernel
theorem dX6_readRest_202 : decode cX6_readRest 202 = .ok (.aload_n 0, 1) := by decide +kernel
theorem dX6_readRest_203 : decode cX6_readRest 203 = .ok (.invokevirtual 103, 3) := by decide +kernel
theorem dX6_readRest_206 : decode cX6_readRest 206 = .ok (.ireturn, 1) := by decide +kernel
theorem dX6_readRest_207 : decode cX6_readRest 207 = .ok (.iconst 1, 1) := by decide +kernel
theorem dX6_readRest_208 : decode cX6_readRest 208 = .ok (.ireturn, 1) := by decide +kernel
abbrev rmX6_readRest : Room := { frames := 5, cells := 0, slots := 0, locals := 107 }
set_option maxHeartbeats 4000000 in
set_option maxRecDepth 100000 in
theorem kX6_readRest (l : Launch) (D : va_G) (cy : Nat → ClassId) (h0 : Nat) (a0 : Nat → Nat) (a1 : Nat → Nat) (a2 : Nat → Nat) (a3 : Nat → Nat) (s0 : Rc) (s1 : Rc) (s2 : Rc) (s3 : Rc) (res : Int32 × Rc × Rc) (h : fX6_readRest s0 s1 s2 s3 = some res) : CZ l D cy yX6_readRest wsX6_readRest rmX6_readRest [.ref h0] (flat [WX6 cy h0 a0 s0, WX8 cy (a0 0) a1 s1, WX5 cy (a0 1) a2 s2, WX0 cy (a0 2) a3 s3]) (flat [WX6 cy h0 a0 s0, WX8 cy (a0 0) a1 res.2.1, WX5 cy (a0 1) a2 res.2.2, WX0 cy (a0 2) a3 s3]) res.1 := by
  refine CZ.of (cc := cX6_readRest) (maxL := 1) (by decide) rfl (Nat.le_of_ble_eq_true rfl) ?_
  intro p e s m args below meth c A QQ ls E hr
  obtain ⟨hx, hb, hml, hown, hts, hK, hN, hP, hD, hA, hl⟩ := E
  have hret : ∀ (pc : Nat) (H : Heap) (locs : List Loc) (ls : Array Slot) (u : Int32 × Rc × Rc), u = res → va_P D vwCl (flat [WX6 cy h0 a0 s0, WX8 cy (a0 0) a1 u.2.1, WX5 cy (a0 1) a2 u.2.2, WX0 cy (a0 2) a3 s3]) H → va_D A (flat [WX6 cy h0 a0 s0, WX8 cy (a0 0) a1 u.2.1, WX5 cy (a0 1) a2 u.2.2, WX0 cy (a0 2) a3 s3]) → va_S A s.heap H locs → isb u.1 = true → decode cX6_readRest pc = .ok (.ireturn, 1) → W p l e rmX6_readRest s m args below meth c H locs 0 0 QQ (F0 m pc ls [.int u.1]) := by
    intro pc H locs ls u hu hP hD hS hz hd; subst hu; exact hr pc H locs ls _ rfl hP hD hS hz hd
  clear hr
  have hl : lv_has ls 1 [(0, .ref h0)] := hl
  have hinX5 : ∀ w ∈ wsX50, w ∈ wsX6_readRest := fun _ h => List.mem_cons_of_mem _ (List.mem_append_left _ (List.mem_append_left _ (List.mem_append_right _ h)))
  have hinX6 : ∀ w ∈ wsX60, w ∈ wsX6_readRest := fun _ h => List.mem_cons_of_mem _ (List.mem_append_left _ (List.mem_append_left _ (List.mem_append_left _ (List.mem_append_right _ h))))
  unfold fX6_readRest at h
  suffices key : ∀ (H : Heap) (locs : List Loc), va_P D vwCl (flat [WX6 cy h0 a0 s0, WX8 cy (a0 0) a1 s1, WX5 cy (a0 1) a2 s2, WX0 cy (a0 2) a3 s3]) H → va_S A s.heap H locs → W p l e rmX6_readRest s m args below meth c H locs 0 0 QQ (F0 m 0 ls []) from key _ _ hP va_S.rf
  clear hP
  intro H locs hP hS
  refine lv_aload_n hx hb dX6_readRest_0 rfl (lv_at hl 0 rfl) ?_
  refine va_get (D := D) (ci := 6) (v := .ref (a0 1)) (C := RX6) (T := TX6) (N := 6) hx hb hts hinX6 hown hK hP 0 rfl rfl 1 (by decide) (hts (.fieldLink RX6 26 "KneeBench$SeasonText" "draft" "LKneeBench$Season;") (List.mem_of_getElem? (i := 1) rfl)) (fun _ h9 => h9) rfl dX6_readRest_1 ?_
  refine va_getN (D := D) (ci := 5) (v := .ref (a2 0)) (C := RX5) (T := TX5) (N := 8) hx hb hts hinX5 hown hK hP 5 rfl rfl 0 (by decide) (NW.fld hN 26 rfl _) (fun _ h9 => h9) rfl dX6_readRest_4 ?_
  refine lv_aload_n hx hb dX6_readRest_7 rfl (lv_at hl 0 rfl) ?_
  refine va_get (D := D) (ci := 6) (v := .int (gi s0 5)) (C := RX6) (T := TX6) (N := 6) hx hb hts hinX6 hown hK hP 0 rfl rfl 5 (by decide) (hts (.fieldLink RX6 19 "KneeBench$SeasonText" "at" "I") (List.mem_of_getElem? (i := 2) rfl)) (fun _ h9 => h9) rfl dX6_readRest_8 ?_
  obtain ⟨g1, h⟩ := gd_elim h
  refine va_iald hx hb hK hP 6 1 rfl rfl (inb_in g1) dX6_readRest_11 ?_
  by_cases c2 : (ga s2 0 (gi s0 5).toNatClampNeg) = (14 : Int32)
  · replace h := (if_pos c2).symm.trans h
    refine lv_tableIn (tgt := 84) hx hb dX6_readRest_12 (by rw [c2]; decide) (by rw [c2]; decide) (by rw [c2]; rfl) (by decide) ?_
    refine lv_aload_n hx hb dX6_readRest_84 rfl (lv_at hl 0 rfl) ?_
    refine va_get (D := D) (ci := 6) (v := .ref (a0 0)) (C := RX6) (T := TX6) (N := 6) hx hb hts hinX6 hown hK hP 0 rfl rfl 0 (by decide) (hts (.fieldLink RX6 22 "KneeBench$SeasonText" "tokens" "LKneeBench$Tokens;") (List.mem_of_getElem? (i := 3) rfl)) (fun _ h9 => h9) rfl dX6_readRest_85 ?_
    refine lv_iconst (v := 0) hx hb dX6_readRest_88 (by decide) ?_
    refine lv_bipush (v := 16) hx hb dX6_readRest_89 (by decide) ?_
    obtain ⟨r3, hr3, h⟩ := bd_elim h
    refine ca_z (w' := [WX6 cy h0 a0 s0, WX8 cy (a0 0) a1 r3.2, WX5 cy (a0 1) a2 s2, WX0 cy (a0 2) a3 s3]) (rn_V (As := [.int (0 : Int32), .int (16 : Int32)]) (rest := []) ⟨hx, hb, hml, hown, hts⟩ (kX8_passNumber l D cy (a0 0) a1 s1 (0 : Int32) (16 : Int32) r3 hr3 H.size) (cwV 2 hts gX6_readRest_X8_passNumber rfl rfl rfl (by decide +kernel) ⟨Nat.le_of_ble_eq_true rfl, Nat.le_of_ble_eq_true rfl⟩) hK hN hP hD [1] rfl rfl (ci := 8) (q0 := 2) rfl rfl rfl rfl hl.1 rfl (Nat.le_of_ble_eq_true rfl) dX6_readRest_91 ⟨Nat.le_refl 0, Nat.le_refl 0⟩) hP hD hS hA [1] ⟨rfl, rfl, rfl, rfl⟩ (fun b4 H locs hP hD hS => ?_)
    exact hret 94 H locs ls (r3.1, r3.2, s2) (Option.some.inj h) hP hD hS b4 dX6_readRest_94
  replace h := (if_neg c2).symm.trans h
  by_cases c5 : (ga s2 0 (gi s0 5).toNatClampNeg) = (18 : Int32)
  · replace h := (if_pos c5).symm.trans h
    refine lv_tableIn (tgt := 95) hx hb dX6_readRest_12 (by rw [c5]; decide) (by rw [c5]; decide) (by rw [c5]; rfl) (by decide) ?_
    refine lv_aload_n hx hb dX6_readRest_95 rfl (lv_at hl 0 rfl) ?_
    obtain ⟨r6, hr6, h⟩ := bd_elim h
    refine ca_z (w' := [WX6 cy h0 a0 s0, WX8 cy (a0 0) a1 r6.2, WX5 cy (a0 1) a2 s2, WX0 cy (a0 2) a3 s3]) (rn_V (As := []) (rest := []) ⟨hx, hb, hml, hown, hts⟩ (kX6_readFarmerOn l D cy h0 a0 a1 a3 s0 s1 s3 r6 hr6 H.size) (cwV 0 hts gX6_readRest_X6_readFarmerOn rfl rfl rfl (by decide +kernel) ⟨Nat.le_of_ble_eq_true rfl, Nat.le_of_ble_eq_true rfl⟩) hK hN hP hD [0, 1, 3] rfl rfl (ci := 6) (q0 := 0) rfl rfl rfl rfl hl.1 rfl (Nat.le_of_ble_eq_true rfl) dX6_readRest_96 ⟨Nat.le_refl 0, Nat.le_refl 0⟩) hP hD hS hA [0, 1, 3] ⟨rfl, rfl, rfl, rfl⟩ (fun b7 H locs hP hD hS => ?_)
    refine lv_if_eq (tgt := 119) hx hb dX6_readRest_99 (by decide) (fun c8 => ?_) (fun c8 => ?_)
    · replace h := (if_pos c8).symm.trans h
      refine lv_iconst (v := 0) hx hb dX6_readRest_119 (by decide) ?_
      exact hret 120 H locs ls ((0 : Int32), r6.2, s2) (Option.some.inj h) hP hD hS (show isb (0 : Int32) = true by decide) dX6_readRest_120
    · replace h := (if_neg c8).symm.trans h
      refine lv_aload_n hx hb dX6_readRest_102 rfl (lv_at hl 0 rfl) ?_
      refine va_get (D := D) (ci := 6) (v := .ref (a0 0)) (C := RX6) (T := TX6) (N := 6) hx hb hts hinX6 hown hK hP 0 rfl rfl 0 (by decide) (hts (.fieldLink RX6 22 "KneeBench$SeasonText" "tokens" "LKneeBench$Tokens;") (List.mem_of_getElem? (i := 3) rfl)) (fun _ h9 => h9) rfl dX6_readRest_103 ?_
      refine lv_iconst (v := 0) hx hb dX6_readRest_106 (by decide) ?_
      refine lv_bipush (v := 59) hx hb dX6_readRest_107 (by decide) ?_
      obtain ⟨r9, hr9, h⟩ := bd_elim h
      refine ca_z (w' := [WX6 cy h0 a0 s0, WX8 cy (a0 0) a1 r9.2, WX5 cy (a0 1) a2 s2, WX0 cy (a0 2) a3 s3]) (rn_V (As := [.int (0 : Int32), .int (59 : Int32)]) (rest := []) ⟨hx, hb, hml, hown, hts⟩ (kX8_passNumber l D cy (a0 0) a1 r6.2 (0 : Int32) (59 : Int32) r9 hr9 H.size) (cwV 2 hts gX6_readRest_X8_passNumber rfl rfl rfl (by decide +kernel) ⟨Nat.le_of_ble_eq_true rfl, Nat.le_of_ble_eq_true rfl⟩) hK hN hP hD [1] rfl rfl (ci := 8) (q0 := 2) rfl rfl rfl rfl hl.1 rfl (Nat.le_of_ble_eq_true rfl) dX6_readRest_109 ⟨Nat.le_refl 0, Nat.le_refl 0⟩) hP hD hS hA [1] ⟨rfl, rfl, rfl, rfl⟩ (fun b10 H locs hP hD hS => ?_)
      refine lv_if_eq (tgt := 119) hx hb dX6_readRest_112 (by decide) (fun c11 => ?_) (fun c11 => ?_)
      · replace h := (if_pos c11).symm.trans h
        refine lv_iconst (v := 0) hx hb dX6_readRest_119 (by decide) ?_
        exact hret 120 H locs ls ((0 : Int32), r9.2, s2) (Option.some.inj h) hP hD hS (show isb (0 : Int32) = true by decide) dX6_readRest_120
      · replace h := (if_neg c11).symm.trans h
        refine lv_iconst (v := 1) hx hb dX6_readRest_115 (by decide) ?_
        refine lv_goto (tgt := 120) hx hb dX6_readRest_116 (by decide) ?_
        exact hret 120 H locs ls ((1 : Int32), r9.2, s2) (Option.some.inj h) hP hD hS (show isb (1 : Int32) = true by decide) dX6_readRest_120
  replace h := (if_neg c5).symm.trans h
  by_cases c12 : (ga s2 0 (gi s0 5).toNatClampNeg) = (20 : Int32)
  · replace h := (if_pos c12).symm.trans h
    refine lv_tableIn (tgt := 121) hx hb dX6_readRest_12 (by rw [c12]; decide) (by rw [c12]; decide) (by rw [c12]; rfl) (by decide) ?_
    refine lv_aload_n hx hb dX6_readRest_121 rfl (lv_at hl 0 rfl) ?_
    obtain ⟨r13, hr13, h⟩ := bd_elim h
    refine ca_z (w' := [WX6 cy h0 a0 s0, WX8 cy (a0 0) a1 r13.2, WX5 cy (a0 1) a2 s2, WX0 cy (a0 2) a3 s3]) (rn_V (As := []) (rest := []) ⟨hx, hb, hml, hown, hts⟩ (kX6_readFarmerOn l D cy h0 a0 a1 a3 s0 s1 s3 r13 hr13 H.size) (cwV 0 hts gX6_readRest_X6_readFarmerOn rfl rfl rfl (by decide +kernel) ⟨Nat.le_of_ble_eq_true rfl, Nat.le_of_ble_eq_true rfl⟩) hK hN hP hD [0, 1, 3] rfl rfl (ci := 6) (q0 := 0) rfl rfl rfl rfl hl.1 rfl (Nat.le_of_ble_eq_true rfl) dX6_readRest_122 ⟨Nat.le_refl 0, Nat.le_refl 0⟩) hP hD hS hA [0, 1, 3] ⟨rfl, rfl, rfl, rfl⟩ (fun b14 H locs hP hD hS => ?_)
    refine lv_if_eq (tgt := 145) hx hb dX6_readRest_125 (by decide) (fun c15 => ?_) (fun c15 => ?_)
    · replace h := (if_pos c15).symm.trans h
      refine lv_iconst (v := 0) hx hb dX6_readRest_145 (by decide) ?_
      exact hret 146 H locs ls ((0 : Int32), r13.2, s2) (Option.some.inj h) hP hD hS (show isb (0 : Int32) = true by decide) dX6_readRest_146
    · replace h := (if_neg c15).symm.trans h
      refine lv_aload_n hx hb dX6_readRest_128 rfl (lv_at hl 0 rfl) ?_
      refine va_get (D := D) (ci := 6) (v := .ref (a0 0)) (C := RX6) (T := TX6) (N := 6) hx hb hts hinX6 hown hK hP 0 rfl rfl 0 (by decide) (hts (.fieldLink RX6 22 "KneeBench$SeasonText" "tokens" "LKneeBench$Tokens;") (List.mem_of_getElem? (i := 3) rfl)) (fun _ h9 => h9) rfl dX6_readRest_129 ?_
      refine lv_iconst (v := 0) hx hb dX6_readRest_132 (by decide) ?_
      refine lv_bipush (v := 60) hx hb dX6_readRest_133 (by decide) ?_
      obtain ⟨r16, hr16, h⟩ := bd_elim h
      refine ca_z (w' := [WX6 cy h0 a0 s0, WX8 cy (a0 0) a1 r16.2, WX5 cy (a0 1) a2 s2, WX0 cy (a0 2) a3 s3]) (rn_V (As := [.int (0 : Int32), .int (60 : Int32)]) (rest := []) ⟨hx, hb, hml, hown, hts⟩ (kX8_passNumber l D cy (a0 0) a1 r13.2 (0 : Int32) (60 : Int32) r16 hr16 H.size) (cwV 2 hts gX6_readRest_X8_passNumber rfl rfl rfl (by decide +kernel) ⟨Nat.le_of_ble_eq_true rfl, Nat.le_of_ble_eq_true rfl⟩) hK hN hP hD [1] rfl rfl (ci := 8) (q0 := 2) rfl rfl rfl rfl hl.1 rfl (Nat.le_of_ble_eq_true rfl) dX6_readRest_135 ⟨Nat.le_refl 0, Nat.le_refl 0⟩) hP hD hS hA [1] ⟨rfl, rfl, rfl, rfl⟩ (fun b17 H locs hP hD hS => ?_)
      refine lv_if_eq (tgt := 145) hx hb dX6_readRest_138 (by decide) (fun c18 => ?_) (fun c18 => ?_)
      · replace h := (if_pos c18).symm.trans h
        refine lv_iconst (v := 0) hx hb dX6_readRest_145 (by decide) ?_
        exact hret 146 H locs ls ((0 : Int32), r16.2, s2) (Option.some.inj h) hP hD hS (show isb (0 : Int32) = true by decide) dX6_readRest_146
      · replace h := (if_neg c18).symm.trans h
        refine lv_iconst (v := 1) hx hb dX6_readRest_141 (by decide) ?_
        refine lv_goto (tgt := 146) hx hb dX6_readRest_142 (by decide) ?_
        exact hret 146 H locs ls ((1 : Int32), r16.2, s2) (Option.some.inj h) hP hD hS (show isb (1 : Int32) = true by decide) dX6_readRest_146
  replace h := (if_neg c12).symm.trans h
  by_cases c19 : (ga s2 0 (gi s0 5).toNatClampNeg) = (21 : Int32)
  · replace h := (if_pos c19).symm.trans h
    refine lv_tableIn (tgt := 147) hx hb dX6_readRest_12 (by rw [c19]; decide) (by rw [c19]; decide) (by rw [c19]; rfl) (by decide) ?_
    refine lv_aload_n hx hb dX6_readRest_147 rfl (lv_at hl 0 rfl) ?_
    refine va_get (D := D) (ci := 6) (v := .ref (a0 0)) (C := RX6) (T := TX6) (N := 6) hx hb hts hinX6 hown hK hP 0 rfl rfl 0 (by decide) (hts (.fieldLink RX6 22 "KneeBench$SeasonText" "tokens" "LKneeBench$Tokens;") (List.mem_of_getElem? (i := 3) rfl)) (fun _ h9 => h9) rfl dX6_readRest_148 ?_
    refine lv_aload_n hx hb dX6_readRest_151 rfl (lv_at hl 0 rfl) ?_
    refine va_get (D := D) (ci := 6) (v := .ref (a0 2)) (C := RX6) (T := TX6) (N := 6) hx hb hts hinX6 hown hK hP 0 rfl rfl 2 (by decide) (hts (.fieldLink RX6 30 "KneeBench$SeasonText" "bench" "LKneeBench$Bench;") (List.mem_of_getElem? (i := 4) rfl)) (fun _ h9 => h9) rfl dX6_readRest_152 ?_
    obtain ⟨r20, hr20, h⟩ := bd_elim h
    refine ca_z (w' := [WX6 cy h0 a0 s0, WX8 cy (a0 0) a1 r20.2, WX5 cy (a0 1) a2 s2, WX0 cy (a0 2) a3 s3]) (rn_V (As := [.ref (a0 2)]) (rest := []) ⟨hx, hb, hml, hown, hts⟩ (kX8_passFarmer l D cy (a0 0) (a0 2) a1 a3 s1 s3 r20 hr20 H.size) (cwV 1 hts gX6_readRest_X8_passFarmer rfl rfl rfl (by decide +kernel) ⟨Nat.le_of_ble_eq_true rfl, Nat.le_of_ble_eq_true rfl⟩) hK hN hP hD [1, 3] rfl rfl (ci := 8) (q0 := 2) rfl rfl rfl rfl hl.1 rfl (Nat.le_of_ble_eq_true rfl) dX6_readRest_155 ⟨Nat.le_refl 0, Nat.le_refl 0⟩) hP hD hS hA [1, 3] ⟨rfl, rfl, rfl, rfl⟩ (fun b21 H locs hP hD hS => ?_)
    refine lv_if_eq (tgt := 178) hx hb dX6_readRest_158 (by decide) (fun c22 => ?_) (fun c22 => ?_)
    · replace h := (if_pos c22).symm.trans h
      refine lv_iconst (v := 0) hx hb dX6_readRest_178 (by decide) ?_
      exact hret 179 H locs ls ((0 : Int32), r20.2, s2) (Option.some.inj h) hP hD hS (show isb (0 : Int32) = true by decide) dX6_readRest_179
    · replace h := (if_neg c22).symm.trans h
      refine lv_aload_n hx hb dX6_readRest_161 rfl (lv_at hl 0 rfl) ?_
      refine va_get (D := D) (ci := 6) (v := .ref (a0 0)) (C := RX6) (T := TX6) (N := 6) hx hb hts hinX6 hown hK hP 0 rfl rfl 0 (by decide) (hts (.fieldLink RX6 22 "KneeBench$SeasonText" "tokens" "LKneeBench$Tokens;") (List.mem_of_getElem? (i := 3) rfl)) (fun _ h9 => h9) rfl dX6_readRest_162 ?_
      refine lv_iconst (v := 0) hx hb dX6_readRest_165 (by decide) ?_
      refine lv_bipush (v := 16) hx hb dX6_readRest_166 (by decide) ?_
      obtain ⟨r23, hr23, h⟩ := bd_elim h
      refine ca_z (w' := [WX6 cy h0 a0 s0, WX8 cy (a0 0) a1 r23.2, WX5 cy (a0 1) a2 s2, WX0 cy (a0 2) a3 s3]) (rn_V (As := [.int (0 : Int32), .int (16 : Int32)]) (rest := []) ⟨hx, hb, hml, hown, hts⟩ (kX8_passNumber l D cy (a0 0) a1 r20.2 (0 : Int32) (16 : Int32) r23 hr23 H.size) (cwV 2 hts gX6_readRest_X8_passNumber rfl rfl rfl (by decide +kernel) ⟨Nat.le_of_ble_eq_true rfl, Nat.le_of_ble_eq_true rfl⟩) hK hN hP hD [1] rfl rfl (ci := 8) (q0 := 2) rfl rfl rfl rfl hl.1 rfl (Nat.le_of_ble_eq_true rfl) dX6_readRest_168 ⟨Nat.le_refl 0, Nat.le_refl 0⟩) hP hD hS hA [1] ⟨rfl, rfl, rfl, rfl⟩ (fun b24 H locs hP hD hS => ?_)
      refine lv_if_eq (tgt := 178) hx hb dX6_readRest_171 (by decide) (fun c25 => ?_) (fun c25 => ?_)
      · replace h := (if_pos c25).symm.trans h
        refine lv_iconst (v := 0) hx hb dX6_readRest_178 (by decide) ?_
        exact hret 179 H locs ls ((0 : Int32), r23.2, s2) (Option.some.inj h) hP hD hS (show isb (0 : Int32) = true by decide) dX6_readRest_179
      · replace h := (if_neg c25).symm.trans h
        refine lv_iconst (v := 1) hx hb dX6_readRest_174 (by decide) ?_
        refine lv_goto (tgt := 179) hx hb dX6_readRest_175 (by decide) ?_
        exact hret 179 H locs ls ((1 : Int32), r23.2, s2) (Option.some.inj h) hP hD hS (show isb (1 : Int32) = true by decide) dX6_readRest_179
  replace h := (if_neg c19).symm.trans h
  by_cases c26 : (ga s2 0 (gi s0 5).toNatClampNeg) = (22 : Int32)
  · replace h := (if_pos c26).symm.trans h
    refine lv_tableIn (tgt := 180) hx hb dX6_readRest_12 (by rw [c26]; decide) (by rw [c26]; decide) (by rw [c26]; rfl) (by decide) ?_
    refine lv_aload_n hx hb dX6_readRest_180 rfl (lv_at hl 0 rfl) ?_
    refine va_get (D := D) (ci := 6) (v := .ref (a0 0)) (C := RX6) (T := TX6) (N := 6) hx hb hts hinX6 hown hK hP 0 rfl rfl 0 (by decide) (hts (.fieldLink RX6 22 "KneeBench$SeasonText" "tokens" "LKneeBench$Tokens;") (List.mem_of_getElem? (i := 3) rfl)) (fun _ h9 => h9) rfl dX6_readRest_181 ?_
    refine lv_iconst (v := 0) hx hb dX6_readRest_184 (by decide) ?_
    refine lv_bipush (v := 59) hx hb dX6_readRest_185 (by decide) ?_
    obtain ⟨r27, hr27, h⟩ := bd_elim h
    refine ca_z (w' := [WX6 cy h0 a0 s0, WX8 cy (a0 0) a1 r27.2, WX5 cy (a0 1) a2 s2, WX0 cy (a0 2) a3 s3]) (rn_V (As := [.int (0 : Int32), .int (59 : Int32)]) (rest := []) ⟨hx, hb, hml, hown, hts⟩ (kX8_passNumber l D cy (a0 0) a1 s1 (0 : Int32) (59 : Int32) r27 hr27 H.size) (cwV 2 hts gX6_readRest_X8_passNumber rfl rfl rfl (by decide +kernel) ⟨Nat.le_of_ble_eq_true rfl, Nat.le_of_ble_eq_true rfl⟩) hK hN hP hD [1] rfl rfl (ci := 8) (q0 := 2) rfl rfl rfl rfl hl.1 rfl (Nat.le_of_ble_eq_true rfl) dX6_readRest_187 ⟨Nat.le_refl 0, Nat.le_refl 0⟩) hP hD hS hA [1] ⟨rfl, rfl, rfl, rfl⟩ (fun b28 H locs hP hD hS => ?_)
    exact hret 190 H locs ls (r27.1, r27.2, s2) (Option.some.inj h) hP hD hS b28 dX6_readRest_190
  replace h := (if_neg c26).symm.trans h
  by_cases c29 : (ga s2 0 (gi s0 5).toNatClampNeg) = (23 : Int32)
  · replace h := (if_pos c29).symm.trans h
    refine lv_tableIn (tgt := 202) hx hb dX6_readRest_12 (by rw [c29]; decide) (by rw [c29]; decide) (by rw [c29]; rfl) (by decide) ?_
    refine lv_aload_n hx hb dX6_readRest_202 rfl (lv_at hl 0 rfl) ?_
    obtain ⟨r30, hr30, h⟩ := bd_elim h
    refine ca_z (w' := [WX6 cy h0 a0 s0, WX8 cy (a0 0) a1 r30.2.1, WX5 cy (a0 1) a2 r30.2.2, WX0 cy (a0 2) a3 s3]) (rn_V (As := []) (rest := []) ⟨hx, hb, hml, hown, hts⟩ (kX6_readTest l D cy h0 a0 a1 a2 a3 s0 s1 s2 s3 r30 hr30 H.size) (cwV 0 hts gX6_readRest_X6_readTest rfl rfl rfl (by decide +kernel) ⟨Nat.le_of_ble_eq_true rfl, Nat.le_of_ble_eq_true rfl⟩) hK hN hP hD [0, 1, 2, 3] rfl rfl (ci := 6) (q0 := 0) rfl rfl rfl rfl hl.1 rfl (Nat.le_of_ble_eq_true rfl) dX6_readRest_203 ⟨Nat.le_refl 0, Nat.le_refl 0⟩) hP hD hS hA [0, 1, 2, 3] ⟨rfl, rfl, rfl, rfl⟩ (fun b31 H locs hP hD hS => ?_)
    exact hret 206 H locs ls (r30.1, r30.2.1, r30.2.2) (Option.some.inj h) hP hD hS b31 dX6_readRest_206
  replace h := (if_neg c29).symm.trans h
  by_cases c32 : (ga s2 0 (gi s0 5).toNatClampNeg) = (27 : Int32)
  · replace h := (if_pos c32).symm.trans h
    refine lv_tableIn (tgt := 191) hx hb dX6_readRest_12 (by rw [c32]; decide) (by rw [c32]; decide) (by rw [c32]; rfl) (by decide) ?_
    refine lv_aload_n hx hb dX6_readRest_191 rfl (lv_at hl 0 rfl) ?_
    refine va_get (D := D) (ci := 6) (v := .ref (a0 0)) (C := RX6) (T := TX6) (N := 6) hx hb hts hinX6 hown hK hP 0 rfl rfl 0 (by decide) (hts (.fieldLink RX6 22 "KneeBench$SeasonText" "tokens" "LKneeBench$Tokens;") (List.mem_of_getElem? (i := 3) rfl)) (fun _ h9 => h9) rfl dX6_readRest_192 ?_
    refine lv_iconst (v := 1) hx hb dX6_readRest_195 (by decide) ?_
    refine lv_bipush (v := 99) hx hb dX6_readRest_196 (by decide) ?_
    obtain ⟨r33, hr33, h⟩ := bd_elim h
    refine ca_z (w' := [WX6 cy h0 a0 s0, WX8 cy (a0 0) a1 r33.2, WX5 cy (a0 1) a2 s2, WX0 cy (a0 2) a3 s3]) (rn_V (As := [.int (1 : Int32), .int (99 : Int32)]) (rest := []) ⟨hx, hb, hml, hown, hts⟩ (kX8_passNumber l D cy (a0 0) a1 s1 (1 : Int32) (99 : Int32) r33 hr33 H.size) (cwV 2 hts gX6_readRest_X8_passNumber rfl rfl rfl (by decide +kernel) ⟨Nat.le_of_ble_eq_true rfl, Nat.le_of_ble_eq_true rfl⟩) hK hN hP hD [1] rfl rfl (ci := 8) (q0 := 2) rfl rfl rfl rfl hl.1 rfl (Nat.le_of_ble_eq_true rfl) dX6_readRest_198 ⟨Nat.le_refl 0, Nat.le_refl 0⟩) hP hD hS hA [1] ⟨rfl, rfl, rfl, rfl⟩ (fun b34 H locs hP hD hS => ?_)
    exact hret 201 H locs ls (r33.1, r33.2, s2) (Option.some.inj h) hP hD hS b34 dX6_readRest_201
  replace h := (if_neg c32).symm.trans h
  have ic2 : (ga s2 0 (gi s0 5).toNatClampNeg).toInt ≠ 14 := fun z => c2 (Int32.toInt_inj.mp (z.trans (by decide)))
  have ic5 : (ga s2 0 (gi s0 5).toNatClampNeg).toInt ≠ 18 := fun z => c5 (Int32.toInt_inj.mp (z.trans (by decide)))
  have ic12 : (ga s2 0 (gi s0 5).toNatClampNeg).toInt ≠ 20 := fun z => c12 (Int32.toInt_inj.mp (z.trans (by decide)))
  have ic19 : (ga s2 0 (gi s0 5).toNatClampNeg).toInt ≠ 21 := fun z => c19 (Int32.toInt_inj.mp (z.trans (by decide)))
  have ic26 : (ga s2 0 (gi s0 5).toNatClampNeg).toInt ≠ 22 := fun z => c26 (Int32.toInt_inj.mp (z.trans (by decide)))
  have ic29 : (ga s2 0 (gi s0 5).toNatClampNeg).toInt ≠ 23 := fun z => c29 (Int32.toInt_inj.mp (z.trans (by decide)))
  have ic32 : (ga s2 0 (gi s0 5).toNatClampNeg).toInt ≠ 27 := fun z => c32 (Int32.toInt_inj.mp (z.trans (by decide)))
  have hsw : (ga s2 0 (gi s0 5).toNatClampNeg).toInt < 14 ∨ 27 < (ga s2 0 (gi s0 5).toNatClampNeg).toInt ∨ (ga s2 0 (gi s0 5).toNatClampNeg).toInt = 15 ∨ (ga s2 0 (gi s0 5).toNatClampNeg).toInt = 16 ∨ (ga s2 0 (gi s0 5).toNatClampNeg).toInt = 17 ∨ (ga s2 0 (gi s0 5).toNatClampNeg).toInt = 19 ∨ (ga s2 0 (gi s0 5).toNatClampNeg).toInt = 24 ∨ (ga s2 0 (gi s0 5).toNatClampNeg).toInt = 25 ∨ (ga s2 0 (gi s0 5).toNatClampNeg).toInt = 26 := by omega
  refine lv_tdf (tgt := 207) hx hb dX6_readRest_12 ?_ (by decide) ?_
  · rcases hsw with z | z | z | z | z | z | z | z | z
    · exact Or.inl z
    · exact Or.inr (Or.inl z)
    · exact Or.inr (Or.inr (by rw [z]; rfl))
    · exact Or.inr (Or.inr (by rw [z]; rfl))
    · exact Or.inr (Or.inr (by rw [z]; rfl))
    · exact Or.inr (Or.inr (by rw [z]; rfl))
    · exact Or.inr (Or.inr (by rw [z]; rfl))
    · exact Or.inr (Or.inr (by rw [z]; rfl))
    · exact Or.inr (Or.inr (by rw [z]; rfl))
  refine lv_iconst (v := 1) hx hb dX6_readRest_207 (by decide) ?_
  exact hret 208 H locs ls ((1 : Int32), s1, s2) (Option.some.inj h) hP hD hS (show isb (1 : Int32) = true by decide) dX6_readRest_208
theorem dX6_keepRest_0 : decode cX6_keepRest 0 = .ok (.aload_n 0, 1) := by decide +kernel
theorem dX6_keepRest_1 : decode cX6_keepRest 1 = .ok (.getfield 26, 3) := by decide +kernel
theorem dX6_keepRest_4 : decode cX6_keepRest 4 = .ok (.getfield 121, 3) := by decide +kernel
theorem dX6_keepRest_7 : decode cX6_keepRest 7 = .ok (.aload_n 0, 1) := by decide +kernel
theorem dX6_keepRest_8 : decode cX6_keepRest 8 = .ok (.getfield 19, 3) := by decide +kernel
theorem dX6_keepRest_11 : decode cX6_keepRest 11 = .ok (.aload_n 0, 1) := by decide +kernel
theorem dX6_keepRest_12 : decode cX6_keepRest 12 = .ok (.getfield 22, 3) := by decide +kernel
theorem dX6_keepRest_15 : decode cX6_keepRest 15 = .ok (.getfield 124, 3) := by decide +kernel
theorem dX6_keepRest_18 : decode cX6_keepRest 18 = .ok (.iastore, 1) := by decide +kernel
theorem dX6_keepRest_19 : decode cX6_keepRest 19 = .ok (.aload_n 0, 1) := by decide +kernel
theorem dX6_keepRest_20 : decode cX6_keepRest 20 = .ok (.getfield 26, 3) := by decide +kernel
theorem dX6_keepRest_23 : decode cX6_keepRest 23 = .ok (.getfield 127, 3) := by decide +kernel
theorem dX6_keepRest_26 : decode cX6_keepRest 26 = .ok (.aload_n 0, 1) := by decide +kernel
theorem dX6_keepRest_27 : decode cX6_keepRest 27 = .ok (.getfield 19, 3) := by decide +kernel
theorem dX6_keepRest_30 : decode cX6_keepRest 30 = .ok (.aload_n 0, 1) := by decide +kernel
theorem dX6_keepRest_31 : decode cX6_keepRest 31 = .ok (.getfield 22, 3) := by decide +kernel
theorem dX6_keepRest_34 : decode cX6_keepRest 34 = .ok (.getfield 130, 3) := by decide +kernel
theorem dX6_keepRest_37 : decode cX6_keepRest 37 = .ok (.iastore, 1) := by decide +kernel
theorem dX6_keepRest_38 : decode cX6_keepRest 38 = .ok (.iconst 1, 1) := by decide +kernel
theorem dX6_keepRest_39 : decode cX6_keepRest 39 = .ok (.ireturn, 1) := by decide +kernel
abbrev rmX6_keepRest : Room := { frames := 0, cells := 0, slots := 0, locals := 0 }
set_option maxHeartbeats 4000000 in
set_option maxRecDepth 100000 in
theorem kX6_keepRest (l : Launch) (D : va_G) (cy : Nat → ClassId) (h0 : Nat) (a0 : Nat → Nat) (a1 : Nat → Nat) (a2 : Nat → Nat) (s0 : Rc) (s1 : Rc) (s2 : Rc) (res : Int32 × Rc) (h : fX6_keepRest s0 s1 s2 = some res) : CZ l D cy yX6_keepRest wsX6_keepRest rmX6_keepRest [.ref h0] (flat [WX6 cy h0 a0 s0, WX8 cy (a0 0) a1 s1, WX5 cy (a0 1) a2 s2]) (flat [WX6 cy h0 a0 s0, WX8 cy (a0 0) a1 s1, WX5 cy (a0 1) a2 res.2]) res.1 := by
  refine CZ.of (cc := cX6_keepRest) (maxL := 1) (by decide) rfl (Nat.le_of_ble_eq_true rfl) ?_
  intro p e s m args below meth c A QQ ls E hr
  obtain ⟨hx, hb, hml, hown, hts, hK, hN, hP, hD, hA, hl⟩ := E
  have hret : ∀ (pc : Nat) (H : Heap) (locs : List Loc) (ls : Array Slot) (u : Int32 × Rc), u = res → va_P D vwCl (flat [WX6 cy h0 a0 s0, WX8 cy (a0 0) a1 s1, WX5 cy (a0 1) a2 u.2]) H → va_D A (flat [WX6 cy h0 a0 s0, WX8 cy (a0 0) a1 s1, WX5 cy (a0 1) a2 u.2]) → va_S A s.heap H locs → isb u.1 = true → decode cX6_keepRest pc = .ok (.ireturn, 1) → W p l e rmX6_keepRest s m args below meth c H locs 0 0 QQ (F0 m pc ls [.int u.1]) := by
    intro pc H locs ls u hu hP hD hS hz hd; subst hu; exact hr pc H locs ls _ rfl hP hD hS hz hd
  clear hr
  have hl : lv_has ls 1 [(0, .ref h0)] := hl
  have hinX5 : ∀ w ∈ wsX50, w ∈ wsX6_keepRest := fun _ h => List.mem_cons_of_mem _ (List.mem_append_left _ (List.mem_append_right _ h))
  have hinX6 : ∀ w ∈ wsX60, w ∈ wsX6_keepRest := fun _ h => List.mem_cons_of_mem _ (List.mem_append_left _ (List.mem_append_left _ (List.mem_append_right _ h)))
  have hinX8 : ∀ w ∈ wsX80, w ∈ wsX6_keepRest := fun _ h => List.mem_cons_of_mem _ (List.mem_append_right _ h)
  unfold fX6_keepRest at h
  suffices key : ∀ (H : Heap) (locs : List Loc), va_P D vwCl (flat [WX6 cy h0 a0 s0, WX8 cy (a0 0) a1 s1, WX5 cy (a0 1) a2 s2]) H → va_S A s.heap H locs → W p l e rmX6_keepRest s m args below meth c H locs 0 0 QQ (F0 m 0 ls []) from key _ _ hP va_S.rf
  clear hP
  intro H locs hP hS
  refine lv_aload_n hx hb dX6_keepRest_0 rfl (lv_at hl 0 rfl) ?_
  refine va_get (D := D) (ci := 6) (v := .ref (a0 1)) (C := RX6) (T := TX6) (N := 6) hx hb hts hinX6 hown hK hP 0 rfl rfl 1 (by decide) (hts (.fieldLink RX6 26 "KneeBench$SeasonText" "draft" "LKneeBench$Season;") (List.mem_of_getElem? (i := 1) rfl)) (fun _ h9 => h9) rfl dX6_keepRest_1 ?_
  refine va_getN (D := D) (ci := 5) (v := .ref (a2 3)) (C := RX5) (T := TX5) (N := 8) hx hb hts hinX5 hown hK hP 5 rfl rfl 3 (by decide) (NW.fld hN 32 rfl _) (fun _ h9 => h9) rfl dX6_keepRest_4 ?_
  refine lv_aload_n hx hb dX6_keepRest_7 rfl (lv_at hl 0 rfl) ?_
  refine va_get (D := D) (ci := 6) (v := .int (gi s0 5)) (C := RX6) (T := TX6) (N := 6) hx hb hts hinX6 hown hK hP 0 rfl rfl 5 (by decide) (hts (.fieldLink RX6 19 "KneeBench$SeasonText" "at" "I") (List.mem_of_getElem? (i := 2) rfl)) (fun _ h9 => h9) rfl dX6_keepRest_8 ?_
  refine lv_aload_n hx hb dX6_keepRest_11 rfl (lv_at hl 0 rfl) ?_
  refine va_get (D := D) (ci := 6) (v := .ref (a0 0)) (C := RX6) (T := TX6) (N := 6) hx hb hts hinX6 hown hK hP 0 rfl rfl 0 (by decide) (hts (.fieldLink RX6 22 "KneeBench$SeasonText" "tokens" "LKneeBench$Tokens;") (List.mem_of_getElem? (i := 3) rfl)) (fun _ h9 => h9) rfl dX6_keepRest_12 ?_
  refine va_getN (D := D) (ci := 8) (v := .int (gi s1 10)) (C := RX8) (T := TX8) (N := 14) hx hb hts hinX8 hown hK hP 2 rfl rfl 10 (by decide) (NW.fld hN 50 rfl _) (fun _ h9 => h9) rfl dX6_keepRest_15 ?_
  obtain ⟨g1, h⟩ := gd_elim h
  obtain ⟨s2_2, es, h⟩ := lt_elim h
  refine va_iast hx hb hK hP hD hS 9 1 rfl rfl (inb_in g1) dX6_keepRest_18 (fun H locs hP hD hS => ?_)
  have hP : va_P D vwCl (flat [WX6 cy h0 a0 s0, WX8 cy (a0 0) a1 s1, WX5 cy (a0 1) a2 s2_2]) H := by rw [es]; exact hP
  have hD : va_D A (flat [WX6 cy h0 a0 s0, WX8 cy (a0 0) a1 s1, WX5 cy (a0 1) a2 s2_2]) := by rw [es]; exact hD
  clear es
  refine lv_aload_n hx hb dX6_keepRest_19 rfl (lv_at hl 0 rfl) ?_
  refine va_get (D := D) (ci := 6) (v := .ref (a0 1)) (C := RX6) (T := TX6) (N := 6) hx hb hts hinX6 hown hK hP 0 rfl rfl 1 (by decide) (hts (.fieldLink RX6 26 "KneeBench$SeasonText" "draft" "LKneeBench$Season;") (List.mem_of_getElem? (i := 1) rfl)) (fun _ h9 => h9) rfl dX6_keepRest_20 ?_
  refine va_getN (D := D) (ci := 5) (v := .ref (a2 1)) (C := RX5) (T := TX5) (N := 8) hx hb hts hinX5 hown hK hP 5 rfl rfl 1 (by decide) (NW.fld hN 28 rfl _) (fun _ h9 => h9) rfl dX6_keepRest_23 ?_
  refine lv_aload_n hx hb dX6_keepRest_26 rfl (lv_at hl 0 rfl) ?_
  refine va_get (D := D) (ci := 6) (v := .int (gi s0 5)) (C := RX6) (T := TX6) (N := 6) hx hb hts hinX6 hown hK hP 0 rfl rfl 5 (by decide) (hts (.fieldLink RX6 19 "KneeBench$SeasonText" "at" "I") (List.mem_of_getElem? (i := 2) rfl)) (fun _ h9 => h9) rfl dX6_keepRest_27 ?_
  refine lv_aload_n hx hb dX6_keepRest_30 rfl (lv_at hl 0 rfl) ?_
  refine va_get (D := D) (ci := 6) (v := .ref (a0 0)) (C := RX6) (T := TX6) (N := 6) hx hb hts hinX6 hown hK hP 0 rfl rfl 0 (by decide) (hts (.fieldLink RX6 22 "KneeBench$SeasonText" "tokens" "LKneeBench$Tokens;") (List.mem_of_getElem? (i := 3) rfl)) (fun _ h9 => h9) rfl dX6_keepRest_31 ?_
  refine va_getN (D := D) (ci := 8) (v := .int (gi s1 11)) (C := RX8) (T := TX8) (N := 14) hx hb hts hinX8 hown hK hP 2 rfl rfl 11 (by decide) (NW.fld hN 52 rfl _) (fun _ h9 => h9) rfl dX6_keepRest_34 ?_
  obtain ⟨s2_3, es, h⟩ := lt_elim h
  refine va_iast hx hb hK hP hD hS 7 1 rfl rfl (inb_in g1) dX6_keepRest_37 (fun H locs hP hD hS => ?_)
  have hP : va_P D vwCl (flat [WX6 cy h0 a0 s0, WX8 cy (a0 0) a1 s1, WX5 cy (a0 1) a2 s2_3]) H := by rw [es]; exact hP
  have hD : va_D A (flat [WX6 cy h0 a0 s0, WX8 cy (a0 0) a1 s1, WX5 cy (a0 1) a2 s2_3]) := by rw [es]; exact hD
  clear es
  refine lv_iconst (v := 1) hx hb dX6_keepRest_38 (by decide) ?_
  exact hret 39 H locs ls ((1 : Int32), s2_3) (Option.some.inj h) hP hD hS (show isb (1 : Int32) = true by decide) dX6_keepRest_39
