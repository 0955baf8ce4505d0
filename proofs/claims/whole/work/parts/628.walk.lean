theorem dX6_keepRest_0 : decode cX6_keepRest 0 = .ok (.aload_n 0, 1) := by decide +kernel
theorem dX6_keepRest_1 : decode cX6_keepRest 1 = .ok (.getfield 26, 3) := by decide +kernel
theorem dX6_keepRest_4 : decode cX6_keepRest 4 = .ok (.getfield 124, 3) := by decide +kernel
theorem dX6_keepRest_7 : decode cX6_keepRest 7 = .ok (.aload_n 0, 1) := by decide +kernel
theorem dX6_keepRest_8 : decode cX6_keepRest 8 = .ok (.getfield 19, 3) := by decide +kernel
theorem dX6_keepRest_11 : decode cX6_keepRest 11 = .ok (.aload_n 0, 1) := by decide +kernel
theorem dX6_keepRest_12 : decode cX6_keepRest 12 = .ok (.getfield 22, 3) := by decide +kernel
theorem dX6_keepRest_15 : decode cX6_keepRest 15 = .ok (.getfield 127, 3) := by decide +kernel
theorem dX6_keepRest_18 : decode cX6_keepRest 18 = .ok (.iastore, 1) := by decide +kernel
theorem dX6_keepRest_19 : decode cX6_keepRest 19 = .ok (.aload_n 0, 1) := by decide +kernel
theorem dX6_keepRest_20 : decode cX6_keepRest 20 = .ok (.getfield 26, 3) := by decide +kernel
theorem dX6_keepRest_23 : decode cX6_keepRest 23 = .ok (.getfield 130, 3) := by decide +kernel
theorem dX6_keepRest_26 : decode cX6_keepRest 26 = .ok (.aload_n 0, 1) := by decide +kernel
theorem dX6_keepRest_27 : decode cX6_keepRest 27 = .ok (.getfield 19, 3) := by decide +kernel
theorem dX6_keepRest_30 : decode cX6_keepRest 30 = .ok (.aload_n 0, 1) := by decide +kernel
theorem dX6_keepRest_31 : decode cX6_keepRest 31 = .ok (.getfield 22, 3) := by decide +kernel
theorem dX6_keepRest_34 : decode cX6_keepRest 34 = .ok (.getfield 133, 3) := by decide +kernel
theorem dX6_keepRest_37 : decode cX6_keepRest 37 = .ok (.iastore, 1) := by decide +kernel
theorem dX6_keepRest_38 : decode cX6_keepRest 38 = .ok (.iconst 1, 1) := by decide +kernel
theorem dX6_keepRest_39 : decode cX6_keepRest 39 = .ok (.ireturn, 1) := by decide +kernel
abbrev rmX6_keepRest : Room := { frames := 0, cells := 0, slots := 0, locals := 0 }
set_option maxHeartbeats 4000000 in
set_option maxRecDepth 100000 in
theorem kX6_keepRest (l : Launch) (D : va_G) (cy : Nat → ClassId) (h0 : Nat) (a0 : Nat → Nat) (a1 : Nat → Nat) (a2 : Nat → Nat) (s0 : Rc) (s1 : Rc) (s2 : Rc) (res : Int32 × Rc) (h : fX6_keepRest s0 s1 s2 = some res) : CZ l D cy yX6_keepRest wsX6_keepRest rmX6_keepRest [.ref h0] (flat [WX6 cy h0 a0 s0, WX8 cy (a0 0) a1 s1, WX5 cy (a0 1) a2 s2]) (flat [WX6 cy h0 a0 s0, WX8 cy (a0 0) a1 s1, WX5 cy (a0 1) a2 res.2]) res.1 := by
  refine CZ.of (cc := cX6_keepRest) (maxL := 1) (by decide) rfl (Nat.le_of_ble_eq_true rfl) ?_
  intro p e s m args below meth c A QQ ls E hr
  obtain ⟨hx, hb, hml, hown, hts, hK, hN, hP, hD, hA, hl⟩ := E
  have hret : ∀ (pc : Nat) (H : Heap) (locs : List Loc) (ls : Array Slot) (u : Int32 × Rc), u = res → va_P D vwCl (flat [WX6 cy h0 a0 s0, WX8 cy (a0 0) a1 s1, WX5 cy (a0 1) a2 u.2]) H → va_D A (flat [WX6 cy h0 a0 s0, WX8 cy (a0 0) a1 s1, WX5 cy (a0 1) a2 u.2]) → va_S A s.heap H locs → isb u.1 = true → decode cX6_keepRest pc = .ok (.ireturn, 1) → W p l e rmX6_keepRest s m args below meth c H locs 0 0 QQ (F0 m pc ls [.int u.1]) := by
    intro pc H locs ls u hu hP hD hS hz hd; subst hu; exact hr pc H locs ls _ rfl hP hD hS hz hd
  clear hr
  have hl : lv_has ls 1 [(0, .ref h0)] := hl
  have hinX5 : ∀ w ∈ wsX50, w ∈ wsX6_keepRest := fun _ h => List.mem_cons_of_mem _ (List.mem_append_left _ (List.mem_append_right _ h))
  have hinX6 : ∀ w ∈ wsX60, w ∈ wsX6_keepRest := fun _ h => List.mem_cons_of_mem _ (List.mem_append_left _ (List.mem_append_left _ (List.mem_append_right _ h)))
  have hinX8 : ∀ w ∈ wsX80, w ∈ wsX6_keepRest := fun _ h => List.mem_cons_of_mem _ (List.mem_append_right _ h)
  unfold fX6_keepRest at h
  suffices key : ∀ (H : Heap) (locs : List Loc), va_P D vwCl (flat [WX6 cy h0 a0 s0, WX8 cy (a0 0) a1 s1, WX5 cy (a0 1) a2 s2]) H → va_S A s.heap H locs → W p l e rmX6_keepRest s m args below meth c H locs 0 0 QQ (F0 m 0 ls []) from key _ _ hP va_S.rf
  clear hP
  intro H locs hP hS
  refine lv_aload_n hx hb dX6_keepRest_0 rfl (lv_at hl 0 rfl) ?_
  refine va_get (D := D) (ci := 6) (v := .ref (a0 1)) (C := RX6) (T := TX6) (N := 6) hx hb hts hinX6 hown hK hP 0 rfl rfl 1 (by decide) (hts (.fieldLink RX6 26 "KneeBench$SeasonText" "draft" "LKneeBench$Season;") (List.mem_of_getElem? (i := 1) rfl)) (fun _ h9 => h9) rfl dX6_keepRest_1 ?_
  refine va_getN (D := D) (ci := 5) (v := .ref (a2 3)) (C := RX5) (T := TX5) (N := 8) hx hb hts hinX5 hown hK hP 5 rfl rfl 3 (by decide) (NW.fld hN 30 rfl _) (fun _ h9 => h9) rfl dX6_keepRest_4 ?_
  refine lv_aload_n hx hb dX6_keepRest_7 rfl (lv_at hl 0 rfl) ?_
  refine va_get (D := D) (ci := 6) (v := .int (gi s0 5)) (C := RX6) (T := TX6) (N := 6) hx hb hts hinX6 hown hK hP 0 rfl rfl 5 (by decide) (hts (.fieldLink RX6 19 "KneeBench$SeasonText" "at" "I") (List.mem_of_getElem? (i := 2) rfl)) (fun _ h9 => h9) rfl dX6_keepRest_8 ?_
  refine lv_aload_n hx hb dX6_keepRest_11 rfl (lv_at hl 0 rfl) ?_
  refine va_get (D := D) (ci := 6) (v := .ref (a0 0)) (C := RX6) (T := TX6) (N := 6) hx hb hts hinX6 hown hK hP 0 rfl rfl 0 (by decide) (hts (.fieldLink RX6 22 "KneeBench$SeasonText" "tokens" "LKneeBench$Tokens;") (List.mem_of_getElem? (i := 3) rfl)) (fun _ h9 => h9) rfl dX6_keepRest_12 ?_
  refine va_getN (D := D) (ci := 8) (v := .int (gi s1 10)) (C := RX8) (T := TX8) (N := 14) hx hb hts hinX8 hown hK hP 2 rfl rfl 10 (by decide) (NW.fld hN 48 rfl _) (fun _ h9 => h9) rfl dX6_keepRest_15 ?_
  obtain ⟨g1, h⟩ := gd_elim h
  obtain ⟨s2_2, es, h⟩ := lt_elim h
  refine va_iast hx hb hK hP hD hS 9 1 rfl rfl (inb_in g1) dX6_keepRest_18 (fun H locs hP hD hS => ?_)
  have hP : va_P D vwCl (flat [WX6 cy h0 a0 s0, WX8 cy (a0 0) a1 s1, WX5 cy (a0 1) a2 s2_2]) H := by rw [es]; exact hP
  have hD : va_D A (flat [WX6 cy h0 a0 s0, WX8 cy (a0 0) a1 s1, WX5 cy (a0 1) a2 s2_2]) := by rw [es]; exact hD
  clear es
  refine lv_aload_n hx hb dX6_keepRest_19 rfl (lv_at hl 0 rfl) ?_
  refine va_get (D := D) (ci := 6) (v := .ref (a0 1)) (C := RX6) (T := TX6) (N := 6) hx hb hts hinX6 hown hK hP 0 rfl rfl 1 (by decide) (hts (.fieldLink RX6 26 "KneeBench$SeasonText" "draft" "LKneeBench$Season;") (List.mem_of_getElem? (i := 1) rfl)) (fun _ h9 => h9) rfl dX6_keepRest_20 ?_
  refine va_getN (D := D) (ci := 5) (v := .ref (a2 1)) (C := RX5) (T := TX5) (N := 8) hx hb hts hinX5 hown hK hP 5 rfl rfl 1 (by decide) (NW.fld hN 26 rfl _) (fun _ h9 => h9) rfl dX6_keepRest_23 ?_
  refine lv_aload_n hx hb dX6_keepRest_26 rfl (lv_at hl 0 rfl) ?_
  refine va_get (D := D) (ci := 6) (v := .int (gi s0 5)) (C := RX6) (T := TX6) (N := 6) hx hb hts hinX6 hown hK hP 0 rfl rfl 5 (by decide) (hts (.fieldLink RX6 19 "KneeBench$SeasonText" "at" "I") (List.mem_of_getElem? (i := 2) rfl)) (fun _ h9 => h9) rfl dX6_keepRest_27 ?_
  refine lv_aload_n hx hb dX6_keepRest_30 rfl (lv_at hl 0 rfl) ?_
  refine va_get (D := D) (ci := 6) (v := .ref (a0 0)) (C := RX6) (T := TX6) (N := 6) hx hb hts hinX6 hown hK hP 0 rfl rfl 0 (by decide) (hts (.fieldLink RX6 22 "KneeBench$SeasonText" "tokens" "LKneeBench$Tokens;") (List.mem_of_getElem? (i := 3) rfl)) (fun _ h9 => h9) rfl dX6_keepRest_31 ?_
  refine va_getN (D := D) (ci := 8) (v := .int (gi s1 11)) (C := RX8) (T := TX8) (N := 14) hx hb hts hinX8 hown hK hP 2 rfl rfl 11 (by decide) (NW.fld hN 50 rfl _) (fun _ h9 => h9) rfl dX6_keepRest_34 ?_
  obtain ⟨s2_3, es, h⟩ := lt_elim h
  refine va_iast hx hb hK hP hD hS 7 1 rfl rfl (inb_in g1) dX6_keepRest_37 (fun H locs hP hD hS => ?_)
  have hP : va_P D vwCl (flat [WX6 cy h0 a0 s0, WX8 cy (a0 0) a1 s1, WX5 cy (a0 1) a2 s2_3]) H := by rw [es]; exact hP
  have hD : va_D A (flat [WX6 cy h0 a0 s0, WX8 cy (a0 0) a1 s1, WX5 cy (a0 1) a2 s2_3]) := by rw [es]; exact hD
  clear es
  refine lv_iconst (v := 1) hx hb dX6_keepRest_38 (by decide) ?_
  exact hret 39 H locs ls ((1 : Int32), s2_3) (Option.some.inj h) hP hD hS (show isb (1 : Int32) = true by decide) dX6_keepRest_39
theorem gd_X6_isRead : wsX6_isRead.all goodWord = true := by decide +kernel
set_option maxRecDepth 20000 in
theorem ggX6_isRead_X5_empty : GoodIn wsX6_isRead wsX5_empty := goodIn_by gd_X6_isRead (List.forall_mem_cons.mpr ⟨List.mem_cons_of_mem _ (List.mem_append_left _ (List.mem_append_left _ (List.mem_append_left _ (List.mem_append_left _ (List.mem_append_left _ (List.mem_of_getElem? (i := 7) rfl)))))), List.forall_mem_append.mpr ⟨List.forall_mem_cons.mpr ⟨List.mem_cons_of_mem _ (List.mem_append_left _ (List.mem_append_left _ (List.mem_append_left _ (List.mem_append_left _ (List.mem_append_left _ (List.mem_of_getElem? (i := 8) rfl)))))), List.forall_mem_cons.mpr ⟨List.mem_cons_of_mem _ (List.mem_append_left _ (List.mem_append_left _ (List.mem_append_left _ (List.mem_append_left _ (List.mem_append_left _ (List.mem_of_getElem? (i := 9) rfl)))))), List.forall_mem_cons.mpr ⟨List.mem_cons_of_mem _ (List.mem_append_left _ (List.mem_append_left _ (List.mem_append_left _ (List.mem_append_left _ (List.mem_append_left _ (List.mem_of_getElem? (i := 10) rfl)))))), nowords_in⟩⟩⟩, (fun _ h => List.mem_cons_of_mem _ (List.mem_append_left _ (List.mem_append_right _ (h))))⟩⟩)
set_option maxRecDepth 20000 in
theorem gX6_isRead_X5_empty : GoodIn wsX6_isRead (wsV RX6 34 RX5 yX5_empty wsX5_empty) := goodIn_app (goodIn_by gd_X6_isRead (List.forall_mem_cons.mpr ⟨List.mem_cons_of_mem _ (List.mem_append_left _ (List.mem_append_left _ (List.mem_append_left _ (List.mem_append_left _ (List.mem_append_left _ (List.mem_of_getElem? (i := 3) rfl)))))), List.forall_mem_cons.mpr ⟨List.mem_cons_of_mem _ (List.mem_append_left _ (List.mem_append_left _ (List.mem_append_left _ (List.mem_append_left _ (List.mem_append_left _ (List.mem_of_getElem? (i := 4) rfl)))))), List.forall_mem_cons.mpr ⟨List.mem_cons_of_mem _ (List.mem_append_left _ (List.mem_append_left _ (List.mem_append_left _ (List.mem_append_left _ (List.mem_append_left _ (List.mem_of_getElem? (i := 5) rfl)))))), List.forall_mem_cons.mpr ⟨List.mem_cons_of_mem _ (List.mem_append_left _ (List.mem_append_left _ (List.mem_append_left _ (List.mem_append_left _ (List.mem_append_left _ (List.mem_of_getElem? (i := 6) rfl)))))), nowords_in⟩⟩⟩⟩)) ggX6_isRead_X5_empty
set_option maxRecDepth 20000 in
theorem ggX6_isRead_X8_begin : GoodIn wsX6_isRead wsX8_begin := goodIn_by gd_X6_isRead (List.forall_mem_cons.mpr ⟨List.mem_cons_of_mem _ (List.mem_append_left _ (List.mem_append_left _ (List.mem_append_left _ (List.mem_append_left _ (List.mem_append_left _ (List.mem_of_getElem? (i := 15) rfl)))))), List.forall_mem_append.mpr ⟨List.forall_mem_append.mpr ⟨List.forall_mem_cons.mpr ⟨List.mem_cons_of_mem _ (List.mem_append_left _ (List.mem_append_left _ (List.mem_append_left _ (List.mem_append_left _ (List.mem_append_left _ (List.mem_of_getElem? (i := 16) rfl)))))), List.forall_mem_cons.mpr ⟨List.mem_cons_of_mem _ (List.mem_append_left _ (List.mem_append_left _ (List.mem_append_left _ (List.mem_append_left _ (List.mem_append_left _ (List.mem_of_getElem? (i := 17) rfl)))))), List.forall_mem_cons.mpr ⟨List.mem_cons_of_mem _ (List.mem_append_left _ (List.mem_append_left _ (List.mem_append_left _ (List.mem_append_left _ (List.mem_append_left _ (List.mem_of_getElem? (i := 18) rfl)))))), List.forall_mem_cons.mpr ⟨List.mem_cons_of_mem _ (List.mem_append_left _ (List.mem_append_left _ (List.mem_append_left _ (List.mem_append_left _ (List.mem_append_left _ (List.mem_of_getElem? (i := 19) rfl)))))), List.forall_mem_cons.mpr ⟨List.mem_cons_of_mem _ (List.mem_append_left _ (List.mem_append_left _ (List.mem_append_left _ (List.mem_append_left _ (List.mem_append_left _ (List.mem_of_getElem? (i := 20) rfl)))))), List.forall_mem_cons.mpr ⟨List.mem_cons_of_mem _ (List.mem_append_left _ (List.mem_append_left _ (List.mem_append_left _ (List.mem_append_left _ (List.mem_append_left _ (List.mem_of_getElem? (i := 21) rfl)))))), List.forall_mem_cons.mpr ⟨List.mem_cons_of_mem _ (List.mem_append_left _ (List.mem_append_left _ (List.mem_append_left _ (List.mem_append_left _ (List.mem_append_left _ (List.mem_of_getElem? (i := 22) rfl)))))), List.forall_mem_cons.mpr ⟨List.mem_cons_of_mem _ (List.mem_append_left _ (List.mem_append_left _ (List.mem_append_left _ (List.mem_append_left _ (List.mem_append_left _ (List.mem_of_getElem? (i := 14) rfl)))))), List.forall_mem_cons.mpr ⟨List.mem_cons_of_mem _ (List.mem_append_left _ (List.mem_append_left _ (List.mem_append_left _ (List.mem_append_left _ (List.mem_append_left _ (List.mem_of_getElem? (i := 23) rfl)))))), List.forall_mem_cons.mpr ⟨List.mem_cons_of_mem _ (List.mem_append_left _ (List.mem_append_left _ (List.mem_append_left _ (List.mem_append_left _ (List.mem_append_right _ (List.mem_append_left _ (List.mem_of_getElem? (i := 0) rfl))))))), List.forall_mem_cons.mpr ⟨List.mem_cons_of_mem _ (List.mem_append_left _ (List.mem_append_left _ (List.mem_append_left _ (List.mem_append_left _ (List.mem_append_right _ (List.mem_append_left _ (List.mem_of_getElem? (i := 1) rfl))))))), List.forall_mem_cons.mpr ⟨List.mem_cons_of_mem _ (List.mem_append_left _ (List.mem_append_left _ (List.mem_append_left _ (List.mem_append_left _ (List.mem_append_right _ (List.mem_append_left _ (List.mem_of_getElem? (i := 2) rfl))))))), List.forall_mem_cons.mpr ⟨List.mem_cons_of_mem _ (List.mem_append_left _ (List.mem_append_left _ (List.mem_append_left _ (List.mem_append_left _ (List.mem_append_right _ (List.mem_append_left _ (List.mem_of_getElem? (i := 3) rfl))))))), List.forall_mem_cons.mpr ⟨List.mem_cons_of_mem _ (List.mem_append_left _ (List.mem_append_left _ (List.mem_append_left _ (List.mem_append_left _ (List.mem_append_right _ (List.mem_append_left _ (List.mem_of_getElem? (i := 4) rfl))))))), List.forall_mem_cons.mpr ⟨List.mem_cons_of_mem _ (List.mem_append_left _ (List.mem_append_left _ (List.mem_append_left _ (List.mem_append_left _ (List.mem_append_right _ (List.mem_append_left _ (List.mem_of_getElem? (i := 5) rfl))))))), List.forall_mem_cons.mpr ⟨List.mem_cons_of_mem _ (List.mem_append_left _ (List.mem_append_left _ (List.mem_append_left _ (List.mem_append_left _ (List.mem_append_right _ (List.mem_append_left _ (List.mem_of_getElem? (i := 6) rfl))))))), List.forall_mem_cons.mpr ⟨List.mem_cons_of_mem _ (List.mem_append_left _ (List.mem_append_left _ (List.mem_append_left _ (List.mem_append_left _ (List.mem_append_right _ (List.mem_append_left _ (List.mem_of_getElem? (i := 7) rfl))))))), List.forall_mem_cons.mpr ⟨List.mem_cons_of_mem _ (List.mem_append_left _ (List.mem_append_left _ (List.mem_append_left _ (List.mem_append_left _ (List.mem_append_right _ (List.mem_append_left _ (List.mem_of_getElem? (i := 8) rfl))))))), List.forall_mem_cons.mpr ⟨List.mem_cons_of_mem _ (List.mem_append_left _ (List.mem_append_left _ (List.mem_append_left _ (List.mem_append_left _ (List.mem_append_right _ (List.mem_append_left _ (List.mem_of_getElem? (i := 9) rfl))))))), List.forall_mem_cons.mpr ⟨List.mem_cons_of_mem _ (List.mem_append_left _ (List.mem_append_left _ (List.mem_append_left _ (List.mem_append_left _ (List.mem_append_right _ (List.mem_append_left _ (List.mem_of_getElem? (i := 10) rfl))))))), List.forall_mem_cons.mpr ⟨List.mem_cons_of_mem _ (List.mem_append_left _ (List.mem_append_left _ (List.mem_append_left _ (List.mem_append_left _ (List.mem_append_right _ (List.mem_append_left _ (List.mem_of_getElem? (i := 11) rfl))))))), List.forall_mem_cons.mpr ⟨List.mem_cons_of_mem _ (List.mem_append_left _ (List.mem_append_left _ (List.mem_append_left _ (List.mem_append_left _ (List.mem_append_right _ (List.mem_append_left _ (List.mem_of_getElem? (i := 12) rfl))))))), List.forall_mem_cons.mpr ⟨List.mem_cons_of_mem _ (List.mem_append_left _ (List.mem_append_left _ (List.mem_append_left _ (List.mem_append_left _ (List.mem_append_right _ (List.mem_append_left _ (List.mem_of_getElem? (i := 13) rfl))))))), List.forall_mem_cons.mpr ⟨List.mem_cons_of_mem _ (List.mem_append_left _ (List.mem_append_left _ (List.mem_append_left _ (List.mem_append_left _ (List.mem_append_right _ (List.mem_append_left _ (List.mem_of_getElem? (i := 14) rfl))))))), nowords_in⟩⟩⟩⟩⟩⟩⟩⟩⟩⟩⟩⟩⟩⟩⟩⟩⟩⟩⟩⟩⟩⟩⟩⟩, List.forall_mem_cons.mpr ⟨List.mem_cons_of_mem _ (List.mem_append_left _ (List.mem_append_left _ (List.mem_append_left _ (List.mem_append_left _ (List.mem_append_right _ (List.mem_append_left _ (List.mem_of_getElem? (i := 15) rfl))))))), List.forall_mem_cons.mpr ⟨List.mem_cons_of_mem _ (List.mem_append_left _ (List.mem_append_left _ (List.mem_append_left _ (List.mem_append_left _ (List.mem_append_right _ (List.mem_append_left _ (List.mem_of_getElem? (i := 16) rfl))))))), List.forall_mem_cons.mpr ⟨List.mem_cons_of_mem _ (List.mem_append_left _ (List.mem_append_left _ (List.mem_append_left _ (List.mem_append_left _ (List.mem_append_right _ (List.mem_append_left _ (List.mem_of_getElem? (i := 17) rfl))))))), List.forall_mem_cons.mpr ⟨List.mem_cons_of_mem _ (List.mem_append_left _ (List.mem_append_left _ (List.mem_append_left _ (List.mem_append_left _ (List.mem_append_right _ (List.mem_append_left _ (List.mem_of_getElem? (i := 18) rfl))))))), List.forall_mem_cons.mpr ⟨List.mem_cons_of_mem _ (List.mem_append_left _ (List.mem_append_left _ (List.mem_append_left _ (List.mem_append_left _ (List.mem_append_right _ (List.mem_append_left _ (List.mem_of_getElem? (i := 19) rfl))))))), List.forall_mem_cons.mpr ⟨List.mem_cons_of_mem _ (List.mem_append_left _ (List.mem_append_left _ (List.mem_append_left _ (List.mem_append_left _ (List.mem_append_right _ (List.mem_append_left _ (List.mem_of_getElem? (i := 20) rfl))))))), List.forall_mem_cons.mpr ⟨List.mem_cons_of_mem _ (List.mem_append_left _ (List.mem_append_left _ (List.mem_append_left _ (List.mem_append_left _ (List.mem_append_right _ (List.mem_append_left _ (List.mem_of_getElem? (i := 21) rfl))))))), List.forall_mem_cons.mpr ⟨List.mem_cons_of_mem _ (List.mem_append_left _ (List.mem_append_left _ (List.mem_append_left _ (List.mem_append_left _ (List.mem_append_right _ (List.mem_append_left _ (List.mem_of_getElem? (i := 22) rfl))))))), List.forall_mem_cons.mpr ⟨List.mem_cons_of_mem _ (List.mem_append_left _ (List.mem_append_left _ (List.mem_append_left _ (List.mem_append_left _ (List.mem_append_right _ (List.mem_append_left _ (List.mem_of_getElem? (i := 23) rfl))))))), List.forall_mem_cons.mpr ⟨List.mem_cons_of_mem _ (List.mem_append_left _ (List.mem_append_left _ (List.mem_append_left _ (List.mem_append_left _ (List.mem_append_right _ (List.mem_append_right _ (List.mem_append_left _ (List.mem_of_getElem? (i := 0) rfl)))))))), List.forall_mem_cons.mpr ⟨List.mem_cons_of_mem _ (List.mem_append_left _ (List.mem_append_left _ (List.mem_append_left _ (List.mem_append_left _ (List.mem_append_right _ (List.mem_append_right _ (List.mem_append_left _ (List.mem_of_getElem? (i := 1) rfl)))))))), nowords_in⟩⟩⟩⟩⟩⟩⟩⟩⟩⟩⟩⟩, (fun _ h => List.mem_cons_of_mem _ (List.mem_append_left _ (List.mem_append_left _ (List.mem_append_right _ (h)))))⟩⟩)
set_option maxRecDepth 20000 in
theorem gX6_isRead_X8_begin : GoodIn wsX6_isRead (wsV RX6 39 RX8 yX8_begin wsX8_begin) := goodIn_app (goodIn_by gd_X6_isRead (List.forall_mem_cons.mpr ⟨List.mem_cons_of_mem _ (List.mem_append_left _ (List.mem_append_left _ (List.mem_append_left _ (List.mem_append_left _ (List.mem_append_left _ (List.mem_of_getElem? (i := 11) rfl)))))), List.forall_mem_cons.mpr ⟨List.mem_cons_of_mem _ (List.mem_append_left _ (List.mem_append_left _ (List.mem_append_left _ (List.mem_append_left _ (List.mem_append_left _ (List.mem_of_getElem? (i := 12) rfl)))))), List.forall_mem_cons.mpr ⟨List.mem_cons_of_mem _ (List.mem_append_left _ (List.mem_append_left _ (List.mem_append_left _ (List.mem_append_left _ (List.mem_append_left _ (List.mem_of_getElem? (i := 13) rfl)))))), List.forall_mem_cons.mpr ⟨List.mem_cons_of_mem _ (List.mem_append_left _ (List.mem_append_left _ (List.mem_append_left _ (List.mem_append_left _ (List.mem_append_left _ (List.mem_of_getElem? (i := 14) rfl)))))), nowords_in⟩⟩⟩⟩)) ggX6_isRead_X8_begin
set_option maxRecDepth 20000 in
theorem ggX6_isRead_X8_isAtEnd : GoodIn wsX6_isRead wsX8_isAtEnd := goodIn_by gd_X6_isRead (List.forall_mem_cons.mpr ⟨List.mem_cons_of_mem _ (List.mem_append_left _ (List.mem_append_left _ (List.mem_append_left _ (List.mem_append_left _ (List.mem_append_right _ (List.mem_append_right _ (List.mem_append_left _ (List.mem_of_getElem? (i := 5) rfl)))))))), List.forall_mem_append.mpr ⟨List.forall_mem_cons.mpr ⟨List.mem_cons_of_mem _ (List.mem_append_left _ (List.mem_append_left _ (List.mem_append_left _ (List.mem_append_left _ (List.mem_append_right _ (List.mem_append_left _ (List.mem_of_getElem? (i := 2) rfl))))))), nowords_in⟩, (fun _ h => List.mem_cons_of_mem _ (List.mem_append_left _ (List.mem_append_left _ (List.mem_append_right _ (h)))))⟩⟩)
set_option maxRecDepth 20000 in
theorem gX6_isRead_X8_isAtEnd : GoodIn wsX6_isRead (wsV RX6 45 RX8 yX8_isAtEnd wsX8_isAtEnd) := goodIn_app (goodIn_by gd_X6_isRead (List.forall_mem_cons.mpr ⟨List.mem_cons_of_mem _ (List.mem_append_left _ (List.mem_append_left _ (List.mem_append_left _ (List.mem_append_left _ (List.mem_append_right _ (List.mem_append_right _ (List.mem_append_left _ (List.mem_of_getElem? (i := 2) rfl)))))))), List.forall_mem_cons.mpr ⟨List.mem_cons_of_mem _ (List.mem_append_left _ (List.mem_append_left _ (List.mem_append_left _ (List.mem_append_left _ (List.mem_append_right _ (List.mem_append_right _ (List.mem_append_left _ (List.mem_of_getElem? (i := 3) rfl)))))))), List.forall_mem_cons.mpr ⟨List.mem_cons_of_mem _ (List.mem_append_left _ (List.mem_append_left _ (List.mem_append_left _ (List.mem_append_left _ (List.mem_append_right _ (List.mem_append_right _ (List.mem_append_left _ (List.mem_of_getElem? (i := 4) rfl)))))))), List.forall_mem_cons.mpr ⟨List.mem_cons_of_mem _ (List.mem_append_left _ (List.mem_append_left _ (List.mem_append_left _ (List.mem_append_left _ (List.mem_append_left _ (List.mem_of_getElem? (i := 14) rfl)))))), nowords_in⟩⟩⟩⟩)) ggX6_isRead_X8_isAtEnd
set_option maxRecDepth 20000 in
theorem ggX6_isRead_X6_readEnd : GoodIn wsX6_isRead wsX6_readEnd := goodIn_by gd_X6_isRead (List.forall_mem_cons.mpr ⟨List.mem_cons_of_mem _ (List.mem_append_left _ (List.mem_append_left _ (List.mem_append_left _ (List.mem_append_left _ (List.mem_append_right _ (List.mem_append_right _ (List.mem_append_left _ (List.mem_of_getElem? (i := 10) rfl)))))))), List.forall_mem_append.mpr ⟨List.forall_mem_append.mpr ⟨List.forall_mem_append.mpr ⟨List.forall_mem_append.mpr ⟨List.forall_mem_cons.mpr ⟨List.mem_cons_of_mem _ (List.mem_append_left _ (List.mem_append_left _ (List.mem_append_left _ (List.mem_append_left _ (List.mem_append_left _ (List.mem_of_getElem? (i := 1) rfl)))))), List.forall_mem_cons.mpr ⟨List.mem_cons_of_mem _ (List.mem_append_left _ (List.mem_append_left _ (List.mem_append_left _ (List.mem_append_left _ (List.mem_append_left _ (List.mem_of_getElem? (i := 0) rfl)))))), List.forall_mem_cons.mpr ⟨List.mem_cons_of_mem _ (List.mem_append_left _ (List.mem_append_left _ (List.mem_append_left _ (List.mem_append_left _ (List.mem_append_left _ (List.mem_of_getElem? (i := 2) rfl)))))), List.forall_mem_cons.mpr ⟨List.mem_cons_of_mem _ (List.mem_append_left _ (List.mem_append_left _ (List.mem_append_left _ (List.mem_append_left _ (List.mem_append_right _ (List.mem_append_right _ (List.mem_append_left _ (List.mem_of_getElem? (i := 11) rfl)))))))), List.forall_mem_cons.mpr ⟨List.mem_cons_of_mem _ (List.mem_append_left _ (List.mem_append_left _ (List.mem_append_left _ (List.mem_append_left _ (List.mem_append_right _ (List.mem_append_right _ (List.mem_append_left _ (List.mem_of_getElem? (i := 12) rfl)))))))), List.forall_mem_cons.mpr ⟨List.mem_cons_of_mem _ (List.mem_append_left _ (List.mem_append_left _ (List.mem_append_left _ (List.mem_append_left _ (List.mem_append_right _ (List.mem_append_right _ (List.mem_append_left _ (List.mem_of_getElem? (i := 13) rfl)))))))), List.forall_mem_cons.mpr ⟨List.mem_cons_of_mem _ (List.mem_append_left _ (List.mem_append_left _ (List.mem_append_left _ (List.mem_append_left _ (List.mem_append_right _ (List.mem_append_right _ (List.mem_append_left _ (List.mem_of_getElem? (i := 14) rfl)))))))), List.forall_mem_cons.mpr ⟨List.mem_cons_of_mem _ (List.mem_append_left _ (List.mem_append_left _ (List.mem_append_left _ (List.mem_append_left _ (List.mem_append_right _ (List.mem_append_right _ (List.mem_append_left _ (List.mem_of_getElem? (i := 15) rfl)))))))), List.forall_mem_cons.mpr ⟨List.mem_cons_of_mem _ (List.mem_append_left _ (List.mem_append_left _ (List.mem_append_left _ (List.mem_append_left _ (List.mem_append_left _ (List.mem_of_getElem? (i := 6) rfl)))))), List.forall_mem_cons.mpr ⟨List.mem_cons_of_mem _ (List.mem_append_left _ (List.mem_append_left _ (List.mem_append_left _ (List.mem_append_left _ (List.mem_append_right _ (List.mem_append_right _ (List.mem_append_left _ (List.mem_of_getElem? (i := 16) rfl)))))))), List.forall_mem_cons.mpr ⟨List.mem_cons_of_mem _ (List.mem_append_left _ (List.mem_append_left _ (List.mem_append_left _ (List.mem_append_left _ (List.mem_append_left _ (List.mem_of_getElem? (i := 8) rfl)))))), List.forall_mem_cons.mpr ⟨List.mem_cons_of_mem _ (List.mem_append_left _ (List.mem_append_left _ (List.mem_append_left _ (List.mem_append_left _ (List.mem_append_right _ (List.mem_append_right _ (List.mem_append_left _ (List.mem_of_getElem? (i := 17) rfl)))))))), List.forall_mem_cons.mpr ⟨List.mem_cons_of_mem _ (List.mem_append_left _ (List.mem_append_left _ (List.mem_append_left _ (List.mem_append_left _ (List.mem_append_right _ (List.mem_append_left _ (List.mem_of_getElem? (i := 23) rfl))))))), List.forall_mem_cons.mpr ⟨List.mem_cons_of_mem _ (List.mem_append_left _ (List.mem_append_left _ (List.mem_append_left _ (List.mem_append_left _ (List.mem_append_right _ (List.mem_append_right _ (List.mem_append_left _ (List.mem_of_getElem? (i := 0) rfl)))))))), List.forall_mem_cons.mpr ⟨List.mem_cons_of_mem _ (List.mem_append_left _ (List.mem_append_left _ (List.mem_append_left _ (List.mem_append_left _ (List.mem_append_left _ (List.mem_of_getElem? (i := 14) rfl)))))), List.forall_mem_cons.mpr ⟨List.mem_cons_of_mem _ (List.mem_append_left _ (List.mem_append_left _ (List.mem_append_left _ (List.mem_append_left _ (List.mem_append_right _ (List.mem_append_right _ (List.mem_append_left _ (List.mem_of_getElem? (i := 1) rfl)))))))), List.forall_mem_cons.mpr ⟨List.mem_cons_of_mem _ (List.mem_append_left _ (List.mem_append_left _ (List.mem_append_left _ (List.mem_append_left _ (List.mem_append_left _ (List.mem_of_getElem? (i := 18) rfl)))))), List.forall_mem_cons.mpr ⟨List.mem_cons_of_mem _ (List.mem_append_left _ (List.mem_append_left _ (List.mem_append_left _ (List.mem_append_left _ (List.mem_append_right _ (List.mem_append_left _ (List.mem_of_getElem? (i := 0) rfl))))))), List.forall_mem_cons.mpr ⟨List.mem_cons_of_mem _ (List.mem_append_left _ (List.mem_append_left _ (List.mem_append_left _ (List.mem_append_left _ (List.mem_append_left _ (List.mem_of_getElem? (i := 19) rfl)))))), List.forall_mem_cons.mpr ⟨List.mem_cons_of_mem _ (List.mem_append_left _ (List.mem_append_left _ (List.mem_append_left _ (List.mem_append_left _ (List.mem_append_right _ (List.mem_append_right _ (List.mem_append_left _ (List.mem_of_getElem? (i := 18) rfl)))))))), List.forall_mem_cons.mpr ⟨List.mem_cons_of_mem _ (List.mem_append_left _ (List.mem_append_left _ (List.mem_append_left _ (List.mem_append_left _ (List.mem_append_left _ (List.mem_of_getElem? (i := 21) rfl)))))), List.forall_mem_cons.mpr ⟨List.mem_cons_of_mem _ (List.mem_append_left _ (List.mem_append_left _ (List.mem_append_left _ (List.mem_append_left _ (List.mem_append_left _ (List.mem_of_getElem? (i := 22) rfl)))))), List.forall_mem_cons.mpr ⟨List.mem_cons_of_mem _ (List.mem_append_left _ (List.mem_append_left _ (List.mem_append_left _ (List.mem_append_left _ (List.mem_append_left _ (List.mem_of_getElem? (i := 23) rfl)))))), List.forall_mem_cons.mpr ⟨List.mem_cons_of_mem _ (List.mem_append_left _ (List.mem_append_left _ (List.mem_append_left _ (List.mem_append_left _ (List.mem_append_left _ (List.mem_of_getElem? (i := 17) rfl)))))), nowords_in⟩⟩⟩⟩⟩⟩⟩⟩⟩⟩⟩⟩⟩⟩⟩⟩⟩⟩⟩⟩⟩⟩⟩⟩, List.forall_mem_cons.mpr ⟨List.mem_cons_of_mem _ (List.mem_append_left _ (List.mem_append_left _ (List.mem_append_left _ (List.mem_append_left _ (List.mem_append_left _ (List.mem_of_getElem? (i := 16) rfl)))))), List.forall_mem_cons.mpr ⟨List.mem_cons_of_mem _ (List.mem_append_left _ (List.mem_append_left _ (List.mem_append_left _ (List.mem_append_left _ (List.mem_append_right _ (List.mem_append_left _ (List.mem_of_getElem? (i := 1) rfl))))))), List.forall_mem_cons.mpr ⟨List.mem_cons_of_mem _ (List.mem_append_left _ (List.mem_append_left _ (List.mem_append_left _ (List.mem_append_left _ (List.mem_append_right _ (List.mem_append_left _ (List.mem_of_getElem? (i := 2) rfl))))))), List.forall_mem_cons.mpr ⟨List.mem_cons_of_mem _ (List.mem_append_left _ (List.mem_append_left _ (List.mem_append_left _ (List.mem_append_left _ (List.mem_append_right _ (List.mem_append_left _ (List.mem_of_getElem? (i := 3) rfl))))))), List.forall_mem_cons.mpr ⟨List.mem_cons_of_mem _ (List.mem_append_left _ (List.mem_append_left _ (List.mem_append_left _ (List.mem_append_left _ (List.mem_append_right _ (List.mem_append_left _ (List.mem_of_getElem? (i := 4) rfl))))))), List.forall_mem_cons.mpr ⟨List.mem_cons_of_mem _ (List.mem_append_left _ (List.mem_append_left _ (List.mem_append_left _ (List.mem_append_left _ (List.mem_append_right _ (List.mem_append_left _ (List.mem_of_getElem? (i := 5) rfl))))))), List.forall_mem_cons.mpr ⟨List.mem_cons_of_mem _ (List.mem_append_left _ (List.mem_append_left _ (List.mem_append_left _ (List.mem_append_left _ (List.mem_append_right _ (List.mem_append_left _ (List.mem_of_getElem? (i := 6) rfl))))))), List.forall_mem_cons.mpr ⟨List.mem_cons_of_mem _ (List.mem_append_left _ (List.mem_append_left _ (List.mem_append_left _ (List.mem_append_left _ (List.mem_append_right _ (List.mem_append_left _ (List.mem_of_getElem? (i := 7) rfl))))))), List.forall_mem_cons.mpr ⟨List.mem_cons_of_mem _ (List.mem_append_left _ (List.mem_append_left _ (List.mem_append_left _ (List.mem_append_left _ (List.mem_append_right _ (List.mem_append_left _ (List.mem_of_getElem? (i := 8) rfl))))))), List.forall_mem_cons.mpr ⟨List.mem_cons_of_mem _ (List.mem_append_left _ (List.mem_append_left _ (List.mem_append_left _ (List.mem_append_left _ (List.mem_append_right _ (List.mem_append_left _ (List.mem_of_getElem? (i := 9) rfl))))))), List.forall_mem_cons.mpr ⟨List.mem_cons_of_mem _ (List.mem_append_left _ (List.mem_append_left _ (List.mem_append_left _ (List.mem_append_left _ (List.mem_append_right _ (List.mem_append_left _ (List.mem_of_getElem? (i := 10) rfl))))))), List.forall_mem_cons.mpr ⟨List.mem_cons_of_mem _ (List.mem_append_left _ (List.mem_append_left _ (List.mem_append_left _ (List.mem_append_left _ (List.mem_append_right _ (List.mem_append_left _ (List.mem_of_getElem? (i := 11) rfl))))))), List.forall_mem_cons.mpr ⟨List.mem_cons_of_mem _ (List.mem_append_left _ (List.mem_append_left _ (List.mem_append_left _ (List.mem_append_left _ (List.mem_append_right _ (List.mem_append_left _ (List.mem_of_getElem? (i := 12) rfl))))))), List.forall_mem_cons.mpr ⟨List.mem_cons_of_mem _ (List.mem_append_left _ (List.mem_append_left _ (List.mem_append_left _ (List.mem_append_left _ (List.mem_append_right _ (List.mem_append_left _ (List.mem_of_getElem? (i := 13) rfl))))))), List.forall_mem_cons.mpr ⟨List.mem_cons_of_mem _ (List.mem_append_left _ (List.mem_append_left _ (List.mem_append_left _ (List.mem_append_left _ (List.mem_append_right _ (List.mem_append_left _ (List.mem_of_getElem? (i := 14) rfl))))))), List.forall_mem_cons.mpr ⟨List.mem_cons_of_mem _ (List.mem_append_left _ (List.mem_append_left _ (List.mem_append_left _ (List.mem_append_left _ (List.mem_append_right _ (List.mem_append_left _ (List.mem_of_getElem? (i := 15) rfl))))))), List.forall_mem_cons.mpr ⟨List.mem_cons_of_mem _ (List.mem_append_left _ (List.mem_append_left _ (List.mem_append_left _ (List.mem_append_left _ (List.mem_append_right _ (List.mem_append_left _ (List.mem_of_getElem? (i := 16) rfl))))))), List.forall_mem_cons.mpr ⟨List.mem_cons_of_mem _ (List.mem_append_left _ (List.mem_append_left _ (List.mem_append_left _ (List.mem_append_left _ (List.mem_append_right _ (List.mem_append_left _ (List.mem_of_getElem? (i := 17) rfl))))))), List.forall_mem_cons.mpr ⟨List.mem_cons_of_mem _ (List.mem_append_left _ (List.mem_append_left _ (List.mem_append_left _ (List.mem_append_left _ (List.mem_append_right _ (List.mem_append_left _ (List.mem_of_getElem? (i := 18) rfl))))))), List.forall_mem_cons.mpr ⟨List.mem_cons_of_mem _ (List.mem_append_left _ (List.mem_append_left _ (List.mem_append_left _ (List.mem_append_left _ (List.mem_append_right _ (List.mem_append_left _ (List.mem_of_getElem? (i := 19) rfl))))))), List.forall_mem_cons.mpr ⟨List.mem_cons_of_mem _ (List.mem_append_left _ (List.mem_append_left _ (List.mem_append_left _ (List.mem_append_left _ (List.mem_append_right _ (List.mem_append_left _ (List.mem_of_getElem? (i := 20) rfl))))))), List.forall_mem_cons.mpr ⟨List.mem_cons_of_mem _ (List.mem_append_left _ (List.mem_append_left _ (List.mem_append_left _ (List.mem_append_left _ (List.mem_append_right _ (List.mem_append_left _ (List.mem_of_getElem? (i := 21) rfl))))))), List.forall_mem_cons.mpr ⟨List.mem_cons_of_mem _ (List.mem_append_left _ (List.mem_append_left _ (List.mem_append_left _ (List.mem_append_left _ (List.mem_append_right _ (List.mem_append_left _ (List.mem_of_getElem? (i := 22) rfl))))))), nowords_in⟩⟩⟩⟩⟩⟩⟩⟩⟩⟩⟩⟩⟩⟩⟩⟩⟩⟩⟩⟩⟩⟩⟩⟩, (fun _ h => List.mem_cons_of_mem _ (List.mem_append_left _ (List.mem_append_left _ (List.mem_append_left _ (List.mem_append_right _ (h))))))⟩, (fun _ h => List.mem_cons_of_mem _ (List.mem_append_left _ (List.mem_append_right _ (h))))⟩, (fun _ h => List.mem_cons_of_mem _ (List.mem_append_left _ (List.mem_append_left _ (List.mem_append_right _ (h)))))⟩⟩)
set_option maxRecDepth 20000 in
theorem gX6_isRead_X6_readEnd : GoodIn wsX6_isRead (wsV RX6 52 RX6 yX6_readEnd wsX6_readEnd) := goodIn_app (goodIn_by gd_X6_isRead (List.forall_mem_cons.mpr ⟨List.mem_cons_of_mem _ (List.mem_append_left _ (List.mem_append_left _ (List.mem_append_left _ (List.mem_append_left _ (List.mem_append_right _ (List.mem_append_right _ (List.mem_append_left _ (List.mem_of_getElem? (i := 6) rfl)))))))), List.forall_mem_cons.mpr ⟨List.mem_cons_of_mem _ (List.mem_append_left _ (List.mem_append_left _ (List.mem_append_left _ (List.mem_append_left _ (List.mem_append_right _ (List.mem_append_right _ (List.mem_append_left _ (List.mem_of_getElem? (i := 7) rfl)))))))), List.forall_mem_cons.mpr ⟨List.mem_cons_of_mem _ (List.mem_append_left _ (List.mem_append_left _ (List.mem_append_left _ (List.mem_append_left _ (List.mem_append_right _ (List.mem_append_right _ (List.mem_append_left _ (List.mem_of_getElem? (i := 8) rfl)))))))), List.forall_mem_cons.mpr ⟨List.mem_cons_of_mem _ (List.mem_append_left _ (List.mem_append_left _ (List.mem_append_left _ (List.mem_append_left _ (List.mem_append_right _ (List.mem_append_right _ (List.mem_append_left _ (List.mem_of_getElem? (i := 9) rfl)))))))), nowords_in⟩⟩⟩⟩)) ggX6_isRead_X6_readEnd
set_option maxRecDepth 20000 in
theorem ggX6_isRead_X6_readStep : GoodIn wsX6_isRead wsX6_readStep := goodIn_by gd_X6_isRead (List.forall_mem_cons.mpr ⟨List.mem_cons_of_mem _ (List.mem_append_left _ (List.mem_append_left _ (List.mem_append_left _ (List.mem_append_left _ (List.mem_append_right _ (List.mem_append_right _ (List.mem_append_left _ (List.mem_of_getElem? (i := 22) rfl)))))))), List.forall_mem_append.mpr ⟨List.forall_mem_append.mpr ⟨List.forall_mem_append.mpr ⟨List.forall_mem_append.mpr ⟨List.forall_mem_cons.mpr ⟨List.mem_cons_of_mem _ (List.mem_append_left _ (List.mem_append_left _ (List.mem_append_left _ (List.mem_append_left _ (List.mem_append_left _ (List.mem_of_getElem? (i := 2) rfl)))))), List.forall_mem_cons.mpr ⟨List.mem_cons_of_mem _ (List.mem_append_left _ (List.mem_append_left _ (List.mem_append_left _ (List.mem_append_left _ (List.mem_append_left _ (List.mem_of_getElem? (i := 0) rfl)))))), List.forall_mem_cons.mpr ⟨List.mem_cons_of_mem _ (List.mem_append_left _ (List.mem_append_left _ (List.mem_append_left _ (List.mem_append_left _ (List.mem_append_right _ (List.mem_append_right _ (List.mem_append_left _ (List.mem_of_getElem? (i := 11) rfl)))))))), List.forall_mem_cons.mpr ⟨List.mem_cons_of_mem _ (List.mem_append_left _ (List.mem_append_left _ (List.mem_append_left _ (List.mem_append_left _ (List.mem_append_left _ (List.mem_of_getElem? (i := 1) rfl)))))), List.forall_mem_cons.mpr ⟨List.mem_cons_of_mem _ (List.mem_append_left _ (List.mem_append_left _ (List.mem_append_left _ (List.mem_append_left _ (List.mem_append_right _ (List.mem_append_right _ (List.mem_append_left _ (List.mem_of_getElem? (i := 12) rfl)))))))), List.forall_mem_cons.mpr ⟨List.mem_cons_of_mem _ (List.mem_append_left _ (List.mem_append_left _ (List.mem_append_left _ (List.mem_append_left _ (List.mem_append_right _ (List.mem_append_right _ (List.mem_append_left _ (List.mem_of_getElem? (i := 23) rfl)))))))), List.forall_mem_cons.mpr ⟨List.mem_cons_of_mem _ (List.mem_append_left _ (List.mem_append_left _ (List.mem_append_left _ (List.mem_append_left _ (List.mem_append_right _ (List.mem_append_right _ (List.mem_append_right _ (List.mem_append_left _ (List.mem_of_getElem? (i := 0) rfl))))))))), List.forall_mem_cons.mpr ⟨List.mem_cons_of_mem _ (List.mem_append_left _ (List.mem_append_left _ (List.mem_append_left _ (List.mem_append_left _ (List.mem_append_right _ (List.mem_append_right _ (List.mem_append_left _ (List.mem_of_getElem? (i := 9) rfl)))))))), List.forall_mem_cons.mpr ⟨List.mem_cons_of_mem _ (List.mem_append_left _ (List.mem_append_left _ (List.mem_append_left _ (List.mem_append_left _ (List.mem_append_right _ (List.mem_append_right _ (List.mem_append_right _ (List.mem_append_left _ (List.mem_of_getElem? (i := 1) rfl))))))))), List.forall_mem_cons.mpr ⟨List.mem_cons_of_mem _ (List.mem_append_left _ (List.mem_append_left _ (List.mem_append_left _ (List.mem_append_left _ (List.mem_append_right _ (List.mem_append_right _ (List.mem_append_left _ (List.mem_of_getElem? (i := 17) rfl)))))))), List.forall_mem_cons.mpr ⟨List.mem_cons_of_mem _ (List.mem_append_left _ (List.mem_append_left _ (List.mem_append_left _ (List.mem_append_left _ (List.mem_append_right _ (List.mem_append_left _ (List.mem_of_getElem? (i := 23) rfl))))))), List.forall_mem_cons.mpr ⟨List.mem_cons_of_mem _ (List.mem_append_left _ (List.mem_append_left _ (List.mem_append_left _ (List.mem_append_left _ (List.mem_append_right _ (List.mem_append_right _ (List.mem_append_left _ (List.mem_of_getElem? (i := 0) rfl)))))))), List.forall_mem_cons.mpr ⟨List.mem_cons_of_mem _ (List.mem_append_left _ (List.mem_append_left _ (List.mem_append_left _ (List.mem_append_left _ (List.mem_append_left _ (List.mem_of_getElem? (i := 14) rfl)))))), List.forall_mem_cons.mpr ⟨List.mem_cons_of_mem _ (List.mem_append_left _ (List.mem_append_left _ (List.mem_append_left _ (List.mem_append_left _ (List.mem_append_right _ (List.mem_append_right _ (List.mem_append_left _ (List.mem_of_getElem? (i := 1) rfl)))))))), List.forall_mem_cons.mpr ⟨List.mem_cons_of_mem _ (List.mem_append_left _ (List.mem_append_left _ (List.mem_append_left _ (List.mem_append_left _ (List.mem_append_left _ (List.mem_of_getElem? (i := 18) rfl)))))), List.forall_mem_cons.mpr ⟨List.mem_cons_of_mem _ (List.mem_append_left _ (List.mem_append_left _ (List.mem_append_left _ (List.mem_append_left _ (List.mem_append_right _ (List.mem_append_left _ (List.mem_of_getElem? (i := 0) rfl))))))), List.forall_mem_cons.mpr ⟨List.mem_cons_of_mem _ (List.mem_append_left _ (List.mem_append_left _ (List.mem_append_left _ (List.mem_append_left _ (List.mem_append_left _ (List.mem_of_getElem? (i := 19) rfl)))))), List.forall_mem_cons.mpr ⟨List.mem_cons_of_mem _ (List.mem_append_left _ (List.mem_append_left _ (List.mem_append_left _ (List.mem_append_left _ (List.mem_append_right _ (List.mem_append_right _ (List.mem_append_left _ (List.mem_of_getElem? (i := 13) rfl)))))))), List.forall_mem_cons.mpr ⟨List.mem_cons_of_mem _ (List.mem_append_left _ (List.mem_append_left _ (List.mem_append_left _ (List.mem_append_left _ (List.mem_append_right _ (List.mem_append_right _ (List.mem_append_left _ (List.mem_of_getElem? (i := 14) rfl)))))))), List.forall_mem_cons.mpr ⟨List.mem_cons_of_mem _ (List.mem_append_left _ (List.mem_append_left _ (List.mem_append_left _ (List.mem_append_left _ (List.mem_append_right _ (List.mem_append_right _ (List.mem_append_left _ (List.mem_of_getElem? (i := 15) rfl)))))))), List.forall_mem_cons.mpr ⟨List.mem_cons_of_mem _ (List.mem_append_left _ (List.mem_append_left _ (List.mem_append_left _ (List.mem_append_left _ (List.mem_append_left _ (List.mem_of_getElem? (i := 6) rfl)))))), List.forall_mem_cons.mpr ⟨List.mem_cons_of_mem _ (List.mem_append_left _ (List.mem_append_left _ (List.mem_append_left _ (List.mem_append_left _ (List.mem_append_right _ (List.mem_append_right _ (List.mem_append_left _ (List.mem_of_getElem? (i := 16) rfl)))))))), List.forall_mem_cons.mpr ⟨List.mem_cons_of_mem _ (List.mem_append_left _ (List.mem_append_left _ (List.mem_append_left _ (List.mem_append_left _ (List.mem_append_left _ (List.mem_of_getElem? (i := 8) rfl)))))), List.forall_mem_cons.mpr ⟨List.mem_cons_of_mem _ (List.mem_append_left _ (List.mem_append_left _ (List.mem_append_left _ (List.mem_append_left _ (List.mem_append_right _ (List.mem_append_right _ (List.mem_append_left _ (List.mem_of_getElem? (i := 18) rfl)))))))), nowords_in⟩⟩⟩⟩⟩⟩⟩⟩⟩⟩⟩⟩⟩⟩⟩⟩⟩⟩⟩⟩⟩⟩⟩⟩, List.forall_mem_append.mpr ⟨List.forall_mem_cons.mpr ⟨List.mem_cons_of_mem _ (List.mem_append_left _ (List.mem_append_left _ (List.mem_append_left _ (List.mem_append_left _ (List.mem_append_left _ (List.mem_of_getElem? (i := 21) rfl)))))), List.forall_mem_cons.mpr ⟨List.mem_cons_of_mem _ (List.mem_append_left _ (List.mem_append_left _ (List.mem_append_left _ (List.mem_append_left _ (List.mem_append_left _ (List.mem_of_getElem? (i := 22) rfl)))))), List.forall_mem_cons.mpr ⟨List.mem_cons_of_mem _ (List.mem_append_left _ (List.mem_append_left _ (List.mem_append_left _ (List.mem_append_left _ (List.mem_append_left _ (List.mem_of_getElem? (i := 23) rfl)))))), List.forall_mem_cons.mpr ⟨List.mem_cons_of_mem _ (List.mem_append_left _ (List.mem_append_left _ (List.mem_append_left _ (List.mem_append_left _ (List.mem_append_left _ (List.mem_of_getElem? (i := 17) rfl)))))), List.forall_mem_cons.mpr ⟨List.mem_cons_of_mem _ (List.mem_append_left _ (List.mem_append_left _ (List.mem_append_left _ (List.mem_append_left _ (List.mem_append_left _ (List.mem_of_getElem? (i := 16) rfl)))))), List.forall_mem_cons.mpr ⟨List.mem_cons_of_mem _ (List.mem_append_left _ (List.mem_append_left _ (List.mem_append_left _ (List.mem_append_left _ (List.mem_append_right _ (List.mem_append_left _ (List.mem_of_getElem? (i := 1) rfl))))))), List.forall_mem_cons.mpr ⟨List.mem_cons_of_mem _ (List.mem_append_left _ (List.mem_append_left _ (List.mem_append_left _ (List.mem_append_left _ (List.mem_append_right _ (List.mem_append_left _ (List.mem_of_getElem? (i := 2) rfl))))))), List.forall_mem_cons.mpr ⟨List.mem_cons_of_mem _ (List.mem_append_left _ (List.mem_append_left _ (List.mem_append_left _ (List.mem_append_left _ (List.mem_append_right _ (List.mem_append_left _ (List.mem_of_getElem? (i := 3) rfl))))))), List.forall_mem_cons.mpr ⟨List.mem_cons_of_mem _ (List.mem_append_left _ (List.mem_append_left _ (List.mem_append_left _ (List.mem_append_left _ (List.mem_append_right _ (List.mem_append_left _ (List.mem_of_getElem? (i := 4) rfl))))))), List.forall_mem_cons.mpr ⟨List.mem_cons_of_mem _ (List.mem_append_left _ (List.mem_append_left _ (List.mem_append_left _ (List.mem_append_left _ (List.mem_append_right _ (List.mem_append_left _ (List.mem_of_getElem? (i := 5) rfl))))))), List.forall_mem_cons.mpr ⟨List.mem_cons_of_mem _ (List.mem_append_left _ (List.mem_append_left _ (List.mem_append_left _ (List.mem_append_left _ (List.mem_append_right _ (List.mem_append_left _ (List.mem_of_getElem? (i := 6) rfl))))))), List.forall_mem_cons.mpr ⟨List.mem_cons_of_mem _ (List.mem_append_left _ (List.mem_append_left _ (List.mem_append_left _ (List.mem_append_left _ (List.mem_append_right _ (List.mem_append_left _ (List.mem_of_getElem? (i := 7) rfl))))))), List.forall_mem_cons.mpr ⟨List.mem_cons_of_mem _ (List.mem_append_left _ (List.mem_append_left _ (List.mem_append_left _ (List.mem_append_left _ (List.mem_append_right _ (List.mem_append_left _ (List.mem_of_getElem? (i := 8) rfl))))))), List.forall_mem_cons.mpr ⟨List.mem_cons_of_mem _ (List.mem_append_left _ (List.mem_append_left _ (List.mem_append_left _ (List.mem_append_left _ (List.mem_append_right _ (List.mem_append_left _ (List.mem_of_getElem? (i := 9) rfl))))))), List.forall_mem_cons.mpr ⟨List.mem_cons_of_mem _ (List.mem_append_left _ (List.mem_append_left _ (List.mem_append_left _ (List.mem_append_left _ (List.mem_append_right _ (List.mem_append_left _ (List.mem_of_getElem? (i := 10) rfl))))))), List.forall_mem_cons.mpr ⟨List.mem_cons_of_mem _ (List.mem_append_left _ (List.mem_append_left _ (List.mem_append_left _ (List.mem_append_left _ (List.mem_append_right _ (List.mem_append_left _ (List.mem_of_getElem? (i := 11) rfl))))))), List.forall_mem_cons.mpr ⟨List.mem_cons_of_mem _ (List.mem_append_left _ (List.mem_append_left _ (List.mem_append_left _ (List.mem_append_left _ (List.mem_append_right _ (List.mem_append_left _ (List.mem_of_getElem? (i := 12) rfl))))))), List.forall_mem_cons.mpr ⟨List.mem_cons_of_mem _ (List.mem_append_left _ (List.mem_append_left _ (List.mem_append_left _ (List.mem_append_left _ (List.mem_append_right _ (List.mem_append_left _ (List.mem_of_getElem? (i := 13) rfl))))))), List.forall_mem_cons.mpr ⟨List.mem_cons_of_mem _ (List.mem_append_left _ (List.mem_append_left _ (List.mem_append_left _ (List.mem_append_left _ (List.mem_append_right _ (List.mem_append_left _ (List.mem_of_getElem? (i := 14) rfl))))))), List.forall_mem_cons.mpr ⟨List.mem_cons_of_mem _ (List.mem_append_left _ (List.mem_append_left _ (List.mem_append_left _ (List.mem_append_left _ (List.mem_append_right _ (List.mem_append_left _ (List.mem_of_getElem? (i := 15) rfl))))))), List.forall_mem_cons.mpr ⟨List.mem_cons_of_mem _ (List.mem_append_left _ (List.mem_append_left _ (List.mem_append_left _ (List.mem_append_left _ (List.mem_append_right _ (List.mem_append_left _ (List.mem_of_getElem? (i := 16) rfl))))))), List.forall_mem_cons.mpr ⟨List.mem_cons_of_mem _ (List.mem_append_left _ (List.mem_append_left _ (List.mem_append_left _ (List.mem_append_left _ (List.mem_append_right _ (List.mem_append_left _ (List.mem_of_getElem? (i := 17) rfl))))))), List.forall_mem_cons.mpr ⟨List.mem_cons_of_mem _ (List.mem_append_left _ (List.mem_append_left _ (List.mem_append_left _ (List.mem_append_left _ (List.mem_append_right _ (List.mem_append_left _ (List.mem_of_getElem? (i := 18) rfl))))))), List.forall_mem_cons.mpr ⟨List.mem_cons_of_mem _ (List.mem_append_left _ (List.mem_append_left _ (List.mem_append_left _ (List.mem_append_left _ (List.mem_append_right _ (List.mem_append_left _ (List.mem_of_getElem? (i := 19) rfl))))))), nowords_in⟩⟩⟩⟩⟩⟩⟩⟩⟩⟩⟩⟩⟩⟩⟩⟩⟩⟩⟩⟩⟩⟩⟩⟩, List.forall_mem_cons.mpr ⟨List.mem_cons_of_mem _ (List.mem_append_left _ (List.mem_append_left _ (List.mem_append_left _ (List.mem_append_left _ (List.mem_append_right _ (List.mem_append_left _ (List.mem_of_getElem? (i := 20) rfl))))))), List.forall_mem_cons.mpr ⟨List.mem_cons_of_mem _ (List.mem_append_left _ (List.mem_append_left _ (List.mem_append_left _ (List.mem_append_left _ (List.mem_append_right _ (List.mem_append_left _ (List.mem_of_getElem? (i := 21) rfl))))))), List.forall_mem_cons.mpr ⟨List.mem_cons_of_mem _ (List.mem_append_left _ (List.mem_append_left _ (List.mem_append_left _ (List.mem_append_left _ (List.mem_append_right _ (List.mem_append_left _ (List.mem_of_getElem? (i := 22) rfl))))))), nowords_in⟩⟩⟩⟩⟩, (fun _ h => List.mem_cons_of_mem _ (List.mem_append_left _ (List.mem_append_left _ (List.mem_append_left _ (List.mem_append_right _ (h))))))⟩, (fun _ h => List.mem_cons_of_mem _ (List.mem_append_left _ (List.mem_append_left _ (List.mem_append_right _ (h)))))⟩, (fun _ h => List.mem_cons_of_mem _ (List.mem_append_left _ (List.mem_append_right _ (h))))⟩⟩)
set_option maxRecDepth 20000 in
theorem gX6_isRead_X6_readStep : GoodIn wsX6_isRead (wsV RX6 55 RX6 yX6_readStep wsX6_readStep) := goodIn_app (goodIn_by gd_X6_isRead (List.forall_mem_cons.mpr ⟨List.mem_cons_of_mem _ (List.mem_append_left _ (List.mem_append_left _ (List.mem_append_left _ (List.mem_append_left _ (List.mem_append_right _ (List.mem_append_right _ (List.mem_append_left _ (List.mem_of_getElem? (i := 19) rfl)))))))), List.forall_mem_cons.mpr ⟨List.mem_cons_of_mem _ (List.mem_append_left _ (List.mem_append_left _ (List.mem_append_left _ (List.mem_append_left _ (List.mem_append_right _ (List.mem_append_right _ (List.mem_append_left _ (List.mem_of_getElem? (i := 20) rfl)))))))), List.forall_mem_cons.mpr ⟨List.mem_cons_of_mem _ (List.mem_append_left _ (List.mem_append_left _ (List.mem_append_left _ (List.mem_append_left _ (List.mem_append_right _ (List.mem_append_right _ (List.mem_append_left _ (List.mem_of_getElem? (i := 21) rfl)))))))), List.forall_mem_cons.mpr ⟨List.mem_cons_of_mem _ (List.mem_append_left _ (List.mem_append_left _ (List.mem_append_left _ (List.mem_append_left _ (List.mem_append_right _ (List.mem_append_right _ (List.mem_append_left _ (List.mem_of_getElem? (i := 9) rfl)))))))), nowords_in⟩⟩⟩⟩)) ggX6_isRead_X6_readStep
set_option maxRecDepth 20000 in
theorem ggX6_isRead_X6_readRest : GoodIn wsX6_isRead wsX6_readRest := goodIn_by gd_X6_isRead (List.forall_mem_cons.mpr ⟨List.mem_cons_of_mem _ (List.mem_append_left _ (List.mem_append_left _ (List.mem_append_left _ (List.mem_append_left _ (List.mem_append_right _ (List.mem_append_right _ (List.mem_append_right _ (List.mem_append_left _ (List.mem_of_getElem? (i := 5) rfl))))))))), List.forall_mem_append.mpr ⟨List.forall_mem_append.mpr ⟨List.forall_mem_append.mpr ⟨List.forall_mem_append.mpr ⟨List.forall_mem_append.mpr ⟨List.forall_mem_cons.mpr ⟨List.mem_cons_of_mem _ (List.mem_append_left _ (List.mem_append_left _ (List.mem_append_left _ (List.mem_append_left _ (List.mem_append_left _ (List.mem_of_getElem? (i := 0) rfl)))))), List.forall_mem_cons.mpr ⟨List.mem_cons_of_mem _ (List.mem_append_left _ (List.mem_append_left _ (List.mem_append_left _ (List.mem_append_left _ (List.mem_append_right _ (List.mem_append_right _ (List.mem_append_left _ (List.mem_of_getElem? (i := 11) rfl)))))))), List.forall_mem_cons.mpr ⟨List.mem_cons_of_mem _ (List.mem_append_left _ (List.mem_append_left _ (List.mem_append_left _ (List.mem_append_left _ (List.mem_append_left _ (List.mem_of_getElem? (i := 2) rfl)))))), List.forall_mem_cons.mpr ⟨List.mem_cons_of_mem _ (List.mem_append_left _ (List.mem_append_left _ (List.mem_append_left _ (List.mem_append_left _ (List.mem_append_right _ (List.mem_append_right _ (List.mem_append_right _ (List.mem_append_left _ (List.mem_of_getElem? (i := 6) rfl))))))))), List.forall_mem_cons.mpr ⟨List.mem_cons_of_mem _ (List.mem_append_left _ (List.mem_append_left _ (List.mem_append_left _ (List.mem_append_left _ (List.mem_append_right _ (List.mem_append_right _ (List.mem_append_right _ (List.mem_append_left _ (List.mem_of_getElem? (i := 7) rfl))))))))), List.forall_mem_cons.mpr ⟨List.mem_cons_of_mem _ (List.mem_append_left _ (List.mem_append_left _ (List.mem_append_left _ (List.mem_append_left _ (List.mem_append_right _ (List.mem_append_right _ (List.mem_append_right _ (List.mem_append_left _ (List.mem_of_getElem? (i := 8) rfl))))))))), List.forall_mem_cons.mpr ⟨List.mem_cons_of_mem _ (List.mem_append_left _ (List.mem_append_left _ (List.mem_append_left _ (List.mem_append_left _ (List.mem_append_right _ (List.mem_append_right _ (List.mem_append_right _ (List.mem_append_left _ (List.mem_of_getElem? (i := 9) rfl))))))))), List.forall_mem_cons.mpr ⟨List.mem_cons_of_mem _ (List.mem_append_left _ (List.mem_append_left _ (List.mem_append_left _ (List.mem_append_left _ (List.mem_append_left _ (List.mem_of_getElem? (i := 14) rfl)))))), List.forall_mem_cons.mpr ⟨List.mem_cons_of_mem _ (List.mem_append_left _ (List.mem_append_left _ (List.mem_append_left _ (List.mem_append_left _ (List.mem_append_right _ (List.mem_append_right _ (List.mem_append_right _ (List.mem_append_left _ (List.mem_of_getElem? (i := 10) rfl))))))))), List.forall_mem_cons.mpr ⟨List.mem_cons_of_mem _ (List.mem_append_left _ (List.mem_append_left _ (List.mem_append_left _ (List.mem_append_left _ (List.mem_append_right _ (List.mem_append_left _ (List.mem_of_getElem? (i := 2) rfl))))))), List.forall_mem_cons.mpr ⟨List.mem_cons_of_mem _ (List.mem_append_left _ (List.mem_append_left _ (List.mem_append_left _ (List.mem_append_left _ (List.mem_append_right _ (List.mem_append_left _ (List.mem_of_getElem? (i := 6) rfl))))))), List.forall_mem_cons.mpr ⟨List.mem_cons_of_mem _ (List.mem_append_left _ (List.mem_append_left _ (List.mem_append_left _ (List.mem_append_left _ (List.mem_append_right _ (List.mem_append_right _ (List.mem_append_right _ (List.mem_append_left _ (List.mem_of_getElem? (i := 11) rfl))))))))), List.forall_mem_cons.mpr ⟨List.mem_cons_of_mem _ (List.mem_append_left _ (List.mem_append_left _ (List.mem_append_left _ (List.mem_append_left _ (List.mem_append_right _ (List.mem_append_left _ (List.mem_of_getElem? (i := 22) rfl))))))), List.forall_mem_cons.mpr ⟨List.mem_cons_of_mem _ (List.mem_append_left _ (List.mem_append_left _ (List.mem_append_left _ (List.mem_append_left _ (List.mem_append_right _ (List.mem_append_left _ (List.mem_of_getElem? (i := 23) rfl))))))), List.forall_mem_cons.mpr ⟨List.mem_cons_of_mem _ (List.mem_append_left _ (List.mem_append_left _ (List.mem_append_left _ (List.mem_append_left _ (List.mem_append_right _ (List.mem_append_right _ (List.mem_append_left _ (List.mem_of_getElem? (i := 0) rfl)))))))), List.forall_mem_cons.mpr ⟨List.mem_cons_of_mem _ (List.mem_append_left _ (List.mem_append_left _ (List.mem_append_left _ (List.mem_append_left _ (List.mem_append_right _ (List.mem_append_right _ (List.mem_append_left _ (List.mem_of_getElem? (i := 1) rfl)))))))), List.forall_mem_cons.mpr ⟨List.mem_cons_of_mem _ (List.mem_append_left _ (List.mem_append_left _ (List.mem_append_left _ (List.mem_append_left _ (List.mem_append_left _ (List.mem_of_getElem? (i := 18) rfl)))))), List.forall_mem_cons.mpr ⟨List.mem_cons_of_mem _ (List.mem_append_left _ (List.mem_append_left _ (List.mem_append_left _ (List.mem_append_left _ (List.mem_append_right _ (List.mem_append_left _ (List.mem_of_getElem? (i := 0) rfl))))))), List.forall_mem_cons.mpr ⟨List.mem_cons_of_mem _ (List.mem_append_left _ (List.mem_append_left _ (List.mem_append_left _ (List.mem_append_left _ (List.mem_append_left _ (List.mem_of_getElem? (i := 19) rfl)))))), List.forall_mem_cons.mpr ⟨List.mem_cons_of_mem _ (List.mem_append_left _ (List.mem_append_left _ (List.mem_append_left _ (List.mem_append_left _ (List.mem_append_right _ (List.mem_append_right _ (List.mem_append_right _ (List.mem_append_left _ (List.mem_of_getElem? (i := 12) rfl))))))))), List.forall_mem_cons.mpr ⟨List.mem_cons_of_mem _ (List.mem_append_left _ (List.mem_append_left _ (List.mem_append_left _ (List.mem_append_left _ (List.mem_append_right _ (List.mem_append_right _ (List.mem_append_right _ (List.mem_append_left _ (List.mem_of_getElem? (i := 13) rfl))))))))), List.forall_mem_cons.mpr ⟨List.mem_cons_of_mem _ (List.mem_append_left _ (List.mem_append_left _ (List.mem_append_left _ (List.mem_append_left _ (List.mem_append_right _ (List.mem_append_right _ (List.mem_append_right _ (List.mem_append_left _ (List.mem_of_getElem? (i := 14) rfl))))))))), List.forall_mem_cons.mpr ⟨List.mem_cons_of_mem _ (List.mem_append_left _ (List.mem_append_left _ (List.mem_append_left _ (List.mem_append_left _ (List.mem_append_left _ (List.mem_of_getElem? (i := 20) rfl)))))), List.forall_mem_cons.mpr ⟨List.mem_cons_of_mem _ (List.mem_append_left _ (List.mem_append_left _ (List.mem_append_left _ (List.mem_append_left _ (List.mem_append_left _ (List.mem_of_getElem? (i := 21) rfl)))))), nowords_in⟩⟩⟩⟩⟩⟩⟩⟩⟩⟩⟩⟩⟩⟩⟩⟩⟩⟩⟩⟩⟩⟩⟩⟩, List.forall_mem_append.mpr ⟨List.forall_mem_cons.mpr ⟨List.mem_cons_of_mem _ (List.mem_append_left _ (List.mem_append_left _ (List.mem_append_left _ (List.mem_append_left _ (List.mem_append_left _ (List.mem_of_getElem? (i := 22) rfl)))))), List.forall_mem_cons.mpr ⟨List.mem_cons_of_mem _ (List.mem_append_left _ (List.mem_append_left _ (List.mem_append_left _ (List.mem_append_left _ (List.mem_append_left _ (List.mem_of_getElem? (i := 23) rfl)))))), List.forall_mem_cons.mpr ⟨List.mem_cons_of_mem _ (List.mem_append_left _ (List.mem_append_left _ (List.mem_append_left _ (List.mem_append_left _ (List.mem_append_left _ (List.mem_of_getElem? (i := 17) rfl)))))), List.forall_mem_cons.mpr ⟨List.mem_cons_of_mem _ (List.mem_append_left _ (List.mem_append_left _ (List.mem_append_left _ (List.mem_append_left _ (List.mem_append_left _ (List.mem_of_getElem? (i := 16) rfl)))))), List.forall_mem_cons.mpr ⟨List.mem_cons_of_mem _ (List.mem_append_left _ (List.mem_append_left _ (List.mem_append_left _ (List.mem_append_left _ (List.mem_append_right _ (List.mem_append_left _ (List.mem_of_getElem? (i := 1) rfl))))))), List.forall_mem_cons.mpr ⟨List.mem_cons_of_mem _ (List.mem_append_left _ (List.mem_append_left _ (List.mem_append_left _ (List.mem_append_left _ (List.mem_append_right _ (List.mem_append_left _ (List.mem_of_getElem? (i := 3) rfl))))))), List.forall_mem_cons.mpr ⟨List.mem_cons_of_mem _ (List.mem_append_left _ (List.mem_append_left _ (List.mem_append_left _ (List.mem_append_left _ (List.mem_append_right _ (List.mem_append_left _ (List.mem_of_getElem? (i := 4) rfl))))))), List.forall_mem_cons.mpr ⟨List.mem_cons_of_mem _ (List.mem_append_left _ (List.mem_append_left _ (List.mem_append_left _ (List.mem_append_left _ (List.mem_append_right _ (List.mem_append_left _ (List.mem_of_getElem? (i := 5) rfl))))))), List.forall_mem_cons.mpr ⟨List.mem_cons_of_mem _ (List.mem_append_left _ (List.mem_append_left _ (List.mem_append_left _ (List.mem_append_left _ (List.mem_append_right _ (List.mem_append_left _ (List.mem_of_getElem? (i := 7) rfl))))))), List.forall_mem_cons.mpr ⟨List.mem_cons_of_mem _ (List.mem_append_left _ (List.mem_append_left _ (List.mem_append_left _ (List.mem_append_left _ (List.mem_append_right _ (List.mem_append_left _ (List.mem_of_getElem? (i := 8) rfl))))))), List.forall_mem_cons.mpr ⟨List.mem_cons_of_mem _ (List.mem_append_left _ (List.mem_append_left _ (List.mem_append_left _ (List.mem_append_left _ (List.mem_append_right _ (List.mem_append_left _ (List.mem_of_getElem? (i := 9) rfl))))))), List.forall_mem_cons.mpr ⟨List.mem_cons_of_mem _ (List.mem_append_left _ (List.mem_append_left _ (List.mem_append_left _ (List.mem_append_left _ (List.mem_append_right _ (List.mem_append_left _ (List.mem_of_getElem? (i := 10) rfl))))))), List.forall_mem_cons.mpr ⟨List.mem_cons_of_mem _ (List.mem_append_left _ (List.mem_append_left _ (List.mem_append_left _ (List.mem_append_left _ (List.mem_append_right _ (List.mem_append_left _ (List.mem_of_getElem? (i := 11) rfl))))))), List.forall_mem_cons.mpr ⟨List.mem_cons_of_mem _ (List.mem_append_left _ (List.mem_append_left _ (List.mem_append_left _ (List.mem_append_left _ (List.mem_append_right _ (List.mem_append_left _ (List.mem_of_getElem? (i := 12) rfl))))))), List.forall_mem_cons.mpr ⟨List.mem_cons_of_mem _ (List.mem_append_left _ (List.mem_append_left _ (List.mem_append_left _ (List.mem_append_left _ (List.mem_append_right _ (List.mem_append_left _ (List.mem_of_getElem? (i := 13) rfl))))))), List.forall_mem_cons.mpr ⟨List.mem_cons_of_mem _ (List.mem_append_left _ (List.mem_append_left _ (List.mem_append_left _ (List.mem_append_left _ (List.mem_append_right _ (List.mem_append_left _ (List.mem_of_getElem? (i := 14) rfl))))))), List.forall_mem_cons.mpr ⟨List.mem_cons_of_mem _ (List.mem_append_left _ (List.mem_append_left _ (List.mem_append_left _ (List.mem_append_left _ (List.mem_append_right _ (List.mem_append_left _ (List.mem_of_getElem? (i := 15) rfl))))))), List.forall_mem_cons.mpr ⟨List.mem_cons_of_mem _ (List.mem_append_left _ (List.mem_append_left _ (List.mem_append_left _ (List.mem_append_left _ (List.mem_append_right _ (List.mem_append_left _ (List.mem_of_getElem? (i := 16) rfl))))))), List.forall_mem_cons.mpr ⟨List.mem_cons_of_mem _ (List.mem_append_left _ (List.mem_append_left _ (List.mem_append_left _ (List.mem_append_left _ (List.mem_append_right _ (List.mem_append_left _ (List.mem_of_getElem? (i := 17) rfl))))))), List.forall_mem_cons.mpr ⟨List.mem_cons_of_mem _ (List.mem_append_left _ (List.mem_append_left _ (List.mem_append_left _ (List.mem_append_left _ (List.mem_append_right _ (List.mem_append_left _ (List.mem_of_getElem? (i := 18) rfl))))))), List.forall_mem_cons.mpr ⟨List.mem_cons_of_mem _ (List.mem_append_left _ (List.mem_append_left _ (List.mem_append_left _ (List.mem_append_left _ (List.mem_append_right _ (List.mem_append_left _ (List.mem_of_getElem? (i := 19) rfl))))))), List.forall_mem_cons.mpr ⟨List.mem_cons_of_mem _ (List.mem_append_left _ (List.mem_append_left _ (List.mem_append_left _ (List.mem_append_left _ (List.mem_append_right _ (List.mem_append_left _ (List.mem_of_getElem? (i := 20) rfl))))))), List.forall_mem_cons.mpr ⟨List.mem_cons_of_mem _ (List.mem_append_left _ (List.mem_append_left _ (List.mem_append_left _ (List.mem_append_left _ (List.mem_append_right _ (List.mem_append_left _ (List.mem_of_getElem? (i := 21) rfl))))))), List.forall_mem_cons.mpr ⟨List.mem_cons_of_mem _ (List.mem_append_left _ (List.mem_append_left _ (List.mem_append_left _ (List.mem_append_left _ (List.mem_append_right _ (List.mem_append_right _ (List.mem_append_right _ (List.mem_append_left _ (List.mem_of_getElem? (i := 15) rfl))))))))), nowords_in⟩⟩⟩⟩⟩⟩⟩⟩⟩⟩⟩⟩⟩⟩⟩⟩⟩⟩⟩⟩⟩⟩⟩⟩, List.forall_mem_append.mpr ⟨List.forall_mem_cons.mpr ⟨List.mem_cons_of_mem _ (List.mem_append_left _ (List.mem_append_left _ (List.mem_append_left _ (List.mem_append_left _ (List.mem_append_right _ (List.mem_append_right _ (List.mem_append_right _ (List.mem_append_left _ (List.mem_of_getElem? (i := 16) rfl))))))))), List.forall_mem_cons.mpr ⟨List.mem_cons_of_mem _ (List.mem_append_left _ (List.mem_append_left _ (List.mem_append_left _ (List.mem_append_left _ (List.mem_append_right _ (List.mem_append_right _ (List.mem_append_right _ (List.mem_append_left _ (List.mem_of_getElem? (i := 17) rfl))))))))), List.forall_mem_cons.mpr ⟨List.mem_cons_of_mem _ (List.mem_append_left _ (List.mem_append_left _ (List.mem_append_left _ (List.mem_append_left _ (List.mem_append_right _ (List.mem_append_right _ (List.mem_append_left _ (List.mem_of_getElem? (i := 9) rfl)))))))), List.forall_mem_cons.mpr ⟨List.mem_cons_of_mem _ (List.mem_append_left _ (List.mem_append_left _ (List.mem_append_left _ (List.mem_append_left _ (List.mem_append_right _ (List.mem_append_right _ (List.mem_append_right _ (List.mem_append_left _ (List.mem_of_getElem? (i := 18) rfl))))))))), List.forall_mem_cons.mpr ⟨List.mem_cons_of_mem _ (List.mem_append_left _ (List.mem_append_left _ (List.mem_append_left _ (List.mem_append_left _ (List.mem_append_right _ (List.mem_append_right _ (List.mem_append_right _ (List.mem_append_left _ (List.mem_of_getElem? (i := 19) rfl))))))))), List.forall_mem_cons.mpr ⟨List.mem_cons_of_mem _ (List.mem_append_left _ (List.mem_append_left _ (List.mem_append_left _ (List.mem_append_left _ (List.mem_append_right _ (List.mem_append_right _ (List.mem_append_right _ (List.mem_append_left _ (List.mem_of_getElem? (i := 20) rfl))))))))), List.forall_mem_cons.mpr ⟨List.mem_cons_of_mem _ (List.mem_append_left _ (List.mem_append_left _ (List.mem_append_left _ (List.mem_append_left _ (List.mem_append_right _ (List.mem_append_right _ (List.mem_append_right _ (List.mem_append_left _ (List.mem_of_getElem? (i := 21) rfl))))))))), List.forall_mem_cons.mpr ⟨List.mem_cons_of_mem _ (List.mem_append_left _ (List.mem_append_left _ (List.mem_append_left _ (List.mem_append_left _ (List.mem_append_right _ (List.mem_append_right _ (List.mem_append_right _ (List.mem_append_left _ (List.mem_of_getElem? (i := 22) rfl))))))))), List.forall_mem_cons.mpr ⟨List.mem_cons_of_mem _ (List.mem_append_left _ (List.mem_append_left _ (List.mem_append_left _ (List.mem_append_left _ (List.mem_append_right _ (List.mem_append_right _ (List.mem_append_right _ (List.mem_append_left _ (List.mem_of_getElem? (i := 23) rfl))))))))), List.forall_mem_cons.mpr ⟨List.mem_cons_of_mem _ (List.mem_append_left _ (List.mem_append_left _ (List.mem_append_left _ (List.mem_append_left _ (List.mem_append_right _ (List.mem_append_right _ (List.mem_append_right _ (List.mem_append_right _ (List.mem_append_left _ (List.mem_of_getElem? (i := 0) rfl)))))))))), List.forall_mem_cons.mpr ⟨List.mem_cons_of_mem _ (List.mem_append_left _ (List.mem_append_left _ (List.mem_append_left _ (List.mem_append_left _ (List.mem_append_right _ (List.mem_append_right _ (List.mem_append_right _ (List.mem_append_right _ (List.mem_append_left _ (List.mem_of_getElem? (i := 1) rfl)))))))))), List.forall_mem_cons.mpr ⟨List.mem_cons_of_mem _ (List.mem_append_left _ (List.mem_append_left _ (List.mem_append_left _ (List.mem_append_left _ (List.mem_append_right _ (List.mem_append_right _ (List.mem_append_right _ (List.mem_append_right _ (List.mem_append_left _ (List.mem_of_getElem? (i := 2) rfl)))))))))), List.forall_mem_cons.mpr ⟨List.mem_cons_of_mem _ (List.mem_append_left _ (List.mem_append_left _ (List.mem_append_left _ (List.mem_append_left _ (List.mem_append_right _ (List.mem_append_right _ (List.mem_append_right _ (List.mem_append_right _ (List.mem_append_left _ (List.mem_of_getElem? (i := 3) rfl)))))))))), List.forall_mem_cons.mpr ⟨List.mem_cons_of_mem _ (List.mem_append_left _ (List.mem_append_left _ (List.mem_append_left _ (List.mem_append_left _ (List.mem_append_right _ (List.mem_append_right _ (List.mem_append_right _ (List.mem_append_right _ (List.mem_append_left _ (List.mem_of_getElem? (i := 4) rfl)))))))))), List.forall_mem_cons.mpr ⟨List.mem_cons_of_mem _ (List.mem_append_left _ (List.mem_append_left _ (List.mem_append_left _ (List.mem_append_left _ (List.mem_append_right _ (List.mem_append_right _ (List.mem_append_right _ (List.mem_append_right _ (List.mem_append_left _ (List.mem_of_getElem? (i := 5) rfl)))))))))), List.forall_mem_cons.mpr ⟨List.mem_cons_of_mem _ (List.mem_append_left _ (List.mem_append_left _ (List.mem_append_left _ (List.mem_append_left _ (List.mem_append_right _ (List.mem_append_right _ (List.mem_append_right _ (List.mem_append_right _ (List.mem_append_left _ (List.mem_of_getElem? (i := 6) rfl)))))))))), List.forall_mem_cons.mpr ⟨List.mem_cons_of_mem _ (List.mem_append_left _ (List.mem_append_left _ (List.mem_append_left _ (List.mem_append_left _ (List.mem_append_right _ (List.mem_append_right _ (List.mem_append_right _ (List.mem_append_right _ (List.mem_append_left _ (List.mem_of_getElem? (i := 7) rfl)))))))))), List.forall_mem_cons.mpr ⟨List.mem_cons_of_mem _ (List.mem_append_left _ (List.mem_append_left _ (List.mem_append_left _ (List.mem_append_left _ (List.mem_append_right _ (List.mem_append_right _ (List.mem_append_right _ (List.mem_append_right _ (List.mem_append_left _ (List.mem_of_getElem? (i := 8) rfl)))))))))), List.forall_mem_cons.mpr ⟨List.mem_cons_of_mem _ (List.mem_append_left _ (List.mem_append_left _ (List.mem_append_left _ (List.mem_append_left _ (List.mem_append_right _ (List.mem_append_right _ (List.mem_append_right _ (List.mem_append_right _ (List.mem_append_left _ (List.mem_of_getElem? (i := 9) rfl)))))))))), List.forall_mem_cons.mpr ⟨List.mem_cons_of_mem _ (List.mem_append_left _ (List.mem_append_left _ (List.mem_append_left _ (List.mem_append_left _ (List.mem_append_right _ (List.mem_append_right _ (List.mem_append_right _ (List.mem_append_right _ (List.mem_append_left _ (List.mem_of_getElem? (i := 10) rfl)))))))))), List.forall_mem_cons.mpr ⟨List.mem_cons_of_mem _ (List.mem_append_left _ (List.mem_append_left _ (List.mem_append_left _ (List.mem_append_left _ (List.mem_append_right _ (List.mem_append_right _ (List.mem_append_right _ (List.mem_append_right _ (List.mem_append_left _ (List.mem_of_getElem? (i := 11) rfl)))))))))), List.forall_mem_cons.mpr ⟨List.mem_cons_of_mem _ (List.mem_append_left _ (List.mem_append_left _ (List.mem_append_left _ (List.mem_append_left _ (List.mem_append_right _ (List.mem_append_right _ (List.mem_append_right _ (List.mem_append_right _ (List.mem_append_left _ (List.mem_of_getElem? (i := 12) rfl)))))))))), List.forall_mem_cons.mpr ⟨List.mem_cons_of_mem _ (List.mem_append_left _ (List.mem_append_left _ (List.mem_append_left _ (List.mem_append_left _ (List.mem_append_right _ (List.mem_append_right _ (List.mem_append_right _ (List.mem_append_right _ (List.mem_append_left _ (List.mem_of_getElem? (i := 13) rfl)))))))))), List.forall_mem_cons.mpr ⟨List.mem_cons_of_mem _ (List.mem_append_left _ (List.mem_append_left _ (List.mem_append_left _ (List.mem_append_left _ (List.mem_append_right _ (List.mem_append_right _ (List.mem_append_right _ (List.mem_append_right _ (List.mem_append_left _ (List.mem_of_getElem? (i := 14) rfl)))))))))), nowords_in⟩⟩⟩⟩⟩⟩⟩⟩⟩⟩⟩⟩⟩⟩⟩⟩⟩⟩⟩⟩⟩⟩⟩⟩, List.forall_mem_cons.mpr ⟨List.mem_cons_of_mem _ (List.mem_append_left _ (List.mem_append_left _ (List.mem_append_left _ (List.mem_append_left _ (List.mem_append_right _ (List.mem_append_right _ (List.mem_append_right _ (List.mem_append_right _ (List.mem_append_left _ (List.mem_of_getElem? (i := 15) rfl)))))))))), List.forall_mem_cons.mpr ⟨List.mem_cons_of_mem _ (List.mem_append_left _ (List.mem_append_left _ (List.mem_append_left _ (List.mem_append_left _ (List.mem_append_right _ (List.mem_append_right _ (List.mem_append_right _ (List.mem_append_right _ (List.mem_append_left _ (List.mem_of_getElem? (i := 16) rfl)))))))))), List.forall_mem_cons.mpr ⟨List.mem_cons_of_mem _ (List.mem_append_left _ (List.mem_append_left _ (List.mem_append_left _ (List.mem_append_left _ (List.mem_append_right _ (List.mem_append_right _ (List.mem_append_right _ (List.mem_append_right _ (List.mem_append_left _ (List.mem_of_getElem? (i := 17) rfl)))))))))), List.forall_mem_cons.mpr ⟨List.mem_cons_of_mem _ (List.mem_append_left _ (List.mem_append_left _ (List.mem_append_left _ (List.mem_append_left _ (List.mem_append_right _ (List.mem_append_right _ (List.mem_append_right _ (List.mem_append_right _ (List.mem_append_left _ (List.mem_of_getElem? (i := 18) rfl)))))))))), List.forall_mem_cons.mpr ⟨List.mem_cons_of_mem _ (List.mem_append_left _ (List.mem_append_left _ (List.mem_append_left _ (List.mem_append_left _ (List.mem_append_right _ (List.mem_append_right _ (List.mem_append_right _ (List.mem_append_right _ (List.mem_append_left _ (List.mem_of_getElem? (i := 19) rfl)))))))))), List.forall_mem_cons.mpr ⟨List.mem_cons_of_mem _ (List.mem_append_left _ (List.mem_append_left _ (List.mem_append_left _ (List.mem_append_left _ (List.mem_append_right _ (List.mem_append_right _ (List.mem_append_right _ (List.mem_append_right _ (List.mem_append_left _ (List.mem_of_getElem? (i := 20) rfl)))))))))), List.forall_mem_cons.mpr ⟨List.mem_cons_of_mem _ (List.mem_append_left _ (List.mem_append_left _ (List.mem_append_left _ (List.mem_append_left _ (List.mem_append_right _ (List.mem_append_right _ (List.mem_append_right _ (List.mem_append_right _ (List.mem_append_left _ (List.mem_of_getElem? (i := 21) rfl)))))))))), List.forall_mem_cons.mpr ⟨List.mem_cons_of_mem _ (List.mem_append_left _ (List.mem_append_left _ (List.mem_append_left _ (List.mem_append_left _ (List.mem_append_right _ (List.mem_append_right _ (List.mem_append_right _ (List.mem_append_right _ (List.mem_append_left _ (List.mem_of_getElem? (i := 22) rfl)))))))))), List.forall_mem_cons.mpr ⟨List.mem_cons_of_mem _ (List.mem_append_left _ (List.mem_append_left _ (List.mem_append_left _ (List.mem_append_left _ (List.mem_append_right _ (List.mem_append_right _ (List.mem_append_left _ (List.mem_of_getElem? (i := 18) rfl)))))))), List.forall_mem_cons.mpr ⟨List.mem_cons_of_mem _ (List.mem_append_left _ (List.mem_append_left _ (List.mem_append_left _ (List.mem_append_left _ (List.mem_append_right _ (List.mem_append_right _ (List.mem_append_right _ (List.mem_append_right _ (List.mem_append_left _ (List.mem_of_getElem? (i := 23) rfl)))))))))), List.forall_mem_cons.mpr ⟨List.mem_cons_of_mem _ (List.mem_append_left _ (List.mem_append_left _ (List.mem_append_left _ (List.mem_append_left _ (List.mem_append_right _ (List.mem_append_right _ (List.mem_append_right _ (List.mem_append_right _ (List.mem_append_right _ (List.mem_of_getElem? (i := 0) rfl)))))))))), List.forall_mem_cons.mpr ⟨List.mem_cons_of_mem _ (List.mem_append_left _ (List.mem_append_left _ (List.mem_append_left _ (List.mem_append_left _ (List.mem_append_right _ (List.mem_append_right _ (List.mem_append_right _ (List.mem_append_right _ (List.mem_append_right _ (List.mem_of_getElem? (i := 1) rfl)))))))))), List.forall_mem_cons.mpr ⟨List.mem_cons_of_mem _ (List.mem_append_left _ (List.mem_append_left _ (List.mem_append_left _ (List.mem_append_left _ (List.mem_append_right _ (List.mem_append_right _ (List.mem_append_right _ (List.mem_append_right _ (List.mem_append_right _ (List.mem_of_getElem? (i := 2) rfl)))))))))), List.forall_mem_cons.mpr ⟨List.mem_cons_of_mem _ (List.mem_append_left _ (List.mem_append_left _ (List.mem_append_left _ (List.mem_append_left _ (List.mem_append_right _ (List.mem_append_right _ (List.mem_append_right _ (List.mem_append_right _ (List.mem_append_right _ (List.mem_of_getElem? (i := 3) rfl)))))))))), List.forall_mem_cons.mpr ⟨List.mem_cons_of_mem _ (List.mem_append_left _ (List.mem_append_left _ (List.mem_append_left _ (List.mem_append_left _ (List.mem_append_right _ (List.mem_append_right _ (List.mem_append_right _ (List.mem_append_right _ (List.mem_append_right _ (List.mem_of_getElem? (i := 4) rfl)))))))))), List.forall_mem_cons.mpr ⟨List.mem_cons_of_mem _ (List.mem_append_left _ (List.mem_append_left _ (List.mem_append_left _ (List.mem_append_left _ (List.mem_append_right _ (List.mem_append_right _ (List.mem_append_right _ (List.mem_append_right _ (List.mem_append_right _ (List.mem_of_getElem? (i := 5) rfl)))))))))), List.forall_mem_cons.mpr ⟨List.mem_cons_of_mem _ (List.mem_append_left _ (List.mem_append_left _ (List.mem_append_left _ (List.mem_append_left _ (List.mem_append_right _ (List.mem_append_right _ (List.mem_append_right _ (List.mem_append_right _ (List.mem_append_right _ (List.mem_of_getElem? (i := 6) rfl)))))))))), List.forall_mem_cons.mpr ⟨List.mem_cons_of_mem _ (List.mem_append_left _ (List.mem_append_left _ (List.mem_append_left _ (List.mem_append_left _ (List.mem_append_right _ (List.mem_append_right _ (List.mem_append_left _ (List.mem_of_getElem? (i := 17) rfl)))))))), nowords_in⟩⟩⟩⟩⟩⟩⟩⟩⟩⟩⟩⟩⟩⟩⟩⟩⟩⟩⟩⟩⟩, (fun _ h => List.mem_cons_of_mem _ (List.mem_append_left _ (List.mem_append_left _ (List.mem_append_left _ (List.mem_append_right _ (h))))))⟩, (fun _ h => List.mem_cons_of_mem _ (List.mem_append_left _ (List.mem_append_right _ (h))))⟩, (fun _ h => List.mem_cons_of_mem _ (List.mem_append_left _ (List.mem_append_left _ (List.mem_append_right _ (h)))))⟩, (fun _ h => List.mem_cons_of_mem _ (List.mem_append_right _ (h)))⟩⟩)
set_option maxRecDepth 20000 in
theorem gX6_isRead_X6_readRest : GoodIn wsX6_isRead (wsV RX6 58 RX6 yX6_readRest wsX6_readRest) := goodIn_app (goodIn_by gd_X6_isRead (List.forall_mem_cons.mpr ⟨List.mem_cons_of_mem _ (List.mem_append_left _ (List.mem_append_left _ (List.mem_append_left _ (List.mem_append_left _ (List.mem_append_right _ (List.mem_append_right _ (List.mem_append_right _ (List.mem_append_left _ (List.mem_of_getElem? (i := 2) rfl))))))))), List.forall_mem_cons.mpr ⟨List.mem_cons_of_mem _ (List.mem_append_left _ (List.mem_append_left _ (List.mem_append_left _ (List.mem_append_left _ (List.mem_append_right _ (List.mem_append_right _ (List.mem_append_right _ (List.mem_append_left _ (List.mem_of_getElem? (i := 3) rfl))))))))), List.forall_mem_cons.mpr ⟨List.mem_cons_of_mem _ (List.mem_append_left _ (List.mem_append_left _ (List.mem_append_left _ (List.mem_append_left _ (List.mem_append_right _ (List.mem_append_right _ (List.mem_append_right _ (List.mem_append_left _ (List.mem_of_getElem? (i := 4) rfl))))))))), List.forall_mem_cons.mpr ⟨List.mem_cons_of_mem _ (List.mem_append_left _ (List.mem_append_left _ (List.mem_append_left _ (List.mem_append_left _ (List.mem_append_right _ (List.mem_append_right _ (List.mem_append_left _ (List.mem_of_getElem? (i := 9) rfl)))))))), nowords_in⟩⟩⟩⟩)) ggX6_isRead_X6_readRest
set_option maxRecDepth 20000 in
theorem ggX6_isRead_X6_keepRest : GoodIn wsX6_isRead wsX6_keepRest := goodIn_by gd_X6_isRead (List.forall_mem_cons.mpr ⟨List.mem_cons_of_mem _ (List.mem_append_left _ (List.mem_append_left _ (List.mem_append_left _ (List.mem_append_left _ (List.mem_append_right _ (List.mem_append_right _ (List.mem_append_right _ (List.mem_append_right _ (List.mem_append_right _ (List.mem_of_getElem? (i := 10) rfl)))))))))), List.forall_mem_append.mpr ⟨List.forall_mem_append.mpr ⟨List.forall_mem_append.mpr ⟨List.forall_mem_cons.mpr ⟨List.mem_cons_of_mem _ (List.mem_append_left _ (List.mem_append_left _ (List.mem_append_left _ (List.mem_append_left _ (List.mem_append_left _ (List.mem_of_getElem? (i := 0) rfl)))))), List.forall_mem_cons.mpr ⟨List.mem_cons_of_mem _ (List.mem_append_left _ (List.mem_append_left _ (List.mem_append_left _ (List.mem_append_left _ (List.mem_append_right _ (List.mem_append_right _ (List.mem_append_left _ (List.mem_of_getElem? (i := 11) rfl)))))))), List.forall_mem_cons.mpr ⟨List.mem_cons_of_mem _ (List.mem_append_left _ (List.mem_append_left _ (List.mem_append_left _ (List.mem_append_left _ (List.mem_append_left _ (List.mem_of_getElem? (i := 2) rfl)))))), nowords_in⟩⟩⟩, (fun _ h => List.mem_cons_of_mem _ (List.mem_append_left _ (List.mem_append_left _ (List.mem_append_left _ (List.mem_append_right _ (h))))))⟩, (fun _ h => List.mem_cons_of_mem _ (List.mem_append_left _ (List.mem_append_right _ (h))))⟩, (fun _ h => List.mem_cons_of_mem _ (List.mem_append_left _ (List.mem_append_left _ (List.mem_append_right _ (h)))))⟩⟩)
set_option maxRecDepth 20000 in
theorem gX6_isRead_X6_keepRest : GoodIn wsX6_isRead (wsV RX6 61 RX6 yX6_keepRest wsX6_keepRest) := goodIn_app (goodIn_by gd_X6_isRead (List.forall_mem_cons.mpr ⟨List.mem_cons_of_mem _ (List.mem_append_left _ (List.mem_append_left _ (List.mem_append_left _ (List.mem_append_left _ (List.mem_append_right _ (List.mem_append_right _ (List.mem_append_right _ (List.mem_append_right _ (List.mem_append_right _ (List.mem_of_getElem? (i := 7) rfl)))))))))), List.forall_mem_cons.mpr ⟨List.mem_cons_of_mem _ (List.mem_append_left _ (List.mem_append_left _ (List.mem_append_left _ (List.mem_append_left _ (List.mem_append_right _ (List.mem_append_right _ (List.mem_append_right _ (List.mem_append_right _ (List.mem_append_right _ (List.mem_of_getElem? (i := 8) rfl)))))))))), List.forall_mem_cons.mpr ⟨List.mem_cons_of_mem _ (List.mem_append_left _ (List.mem_append_left _ (List.mem_append_left _ (List.mem_append_left _ (List.mem_append_right _ (List.mem_append_right _ (List.mem_append_right _ (List.mem_append_right _ (List.mem_append_right _ (List.mem_of_getElem? (i := 9) rfl)))))))))), List.forall_mem_cons.mpr ⟨List.mem_cons_of_mem _ (List.mem_append_left _ (List.mem_append_left _ (List.mem_append_left _ (List.mem_append_left _ (List.mem_append_right _ (List.mem_append_right _ (List.mem_append_left _ (List.mem_of_getElem? (i := 9) rfl)))))))), nowords_in⟩⟩⟩⟩)) ggX6_isRead_X6_keepRest
set_option maxRecDepth 20000 in
theorem ggX6_isRead_X8_passSign : GoodIn wsX6_isRead wsX8_passSign := goodIn_by gd_X6_isRead (List.forall_mem_cons.mpr ⟨List.mem_cons_of_mem _ (List.mem_append_left _ (List.mem_append_left _ (List.mem_append_left _ (List.mem_append_left _ (List.mem_append_right _ (List.mem_append_right _ (List.mem_append_right _ (List.mem_append_right _ (List.mem_append_right _ (List.mem_of_getElem? (i := 14) rfl)))))))))), List.forall_mem_append.mpr ⟨List.forall_mem_append.mpr ⟨List.forall_mem_cons.mpr ⟨List.mem_cons_of_mem _ (List.mem_append_left _ (List.mem_append_left _ (List.mem_append_left _ (List.mem_append_left _ (List.mem_append_right _ (List.mem_append_right _ (List.mem_append_right _ (List.mem_append_right _ (List.mem_append_right _ (List.mem_of_getElem? (i := 15) rfl)))))))))), List.forall_mem_cons.mpr ⟨List.mem_cons_of_mem _ (List.mem_append_left _ (List.mem_append_left _ (List.mem_append_left _ (List.mem_append_left _ (List.mem_append_right _ (List.mem_append_right _ (List.mem_append_right _ (List.mem_append_right _ (List.mem_append_right _ (List.mem_of_getElem? (i := 4) rfl)))))))))), List.forall_mem_cons.mpr ⟨List.mem_cons_of_mem _ (List.mem_append_left _ (List.mem_append_left _ (List.mem_append_left _ (List.mem_append_left _ (List.mem_append_right _ (List.mem_append_right _ (List.mem_append_right _ (List.mem_append_right _ (List.mem_append_right _ (List.mem_of_getElem? (i := 5) rfl)))))))))), List.forall_mem_cons.mpr ⟨List.mem_cons_of_mem _ (List.mem_append_left _ (List.mem_append_left _ (List.mem_append_left _ (List.mem_append_left _ (List.mem_append_left _ (List.mem_of_getElem? (i := 14) rfl)))))), List.forall_mem_cons.mpr ⟨List.mem_cons_of_mem _ (List.mem_append_left _ (List.mem_append_left _ (List.mem_append_left _ (List.mem_append_left _ (List.mem_append_right _ (List.mem_append_right _ (List.mem_append_right _ (List.mem_append_right _ (List.mem_append_right _ (List.mem_of_getElem? (i := 6) rfl)))))))))), List.forall_mem_cons.mpr ⟨List.mem_cons_of_mem _ (List.mem_append_left _ (List.mem_append_left _ (List.mem_append_left _ (List.mem_append_left _ (List.mem_append_right _ (List.mem_append_left _ (List.mem_of_getElem? (i := 2) rfl))))))), List.forall_mem_cons.mpr ⟨List.mem_cons_of_mem _ (List.mem_append_left _ (List.mem_append_left _ (List.mem_append_left _ (List.mem_append_left _ (List.mem_append_right _ (List.mem_append_left _ (List.mem_of_getElem? (i := 6) rfl))))))), List.forall_mem_cons.mpr ⟨List.mem_cons_of_mem _ (List.mem_append_left _ (List.mem_append_left _ (List.mem_append_left _ (List.mem_append_left _ (List.mem_append_left _ (List.mem_of_getElem? (i := 20) rfl)))))), List.forall_mem_cons.mpr ⟨List.mem_cons_of_mem _ (List.mem_append_left _ (List.mem_append_left _ (List.mem_append_left _ (List.mem_append_left _ (List.mem_append_left _ (List.mem_of_getElem? (i := 21) rfl)))))), List.forall_mem_cons.mpr ⟨List.mem_cons_of_mem _ (List.mem_append_left _ (List.mem_append_left _ (List.mem_append_left _ (List.mem_append_left _ (List.mem_append_left _ (List.mem_of_getElem? (i := 22) rfl)))))), List.forall_mem_cons.mpr ⟨List.mem_cons_of_mem _ (List.mem_append_left _ (List.mem_append_left _ (List.mem_append_left _ (List.mem_append_left _ (List.mem_append_left _ (List.mem_of_getElem? (i := 23) rfl)))))), List.forall_mem_cons.mpr ⟨List.mem_cons_of_mem _ (List.mem_append_left _ (List.mem_append_left _ (List.mem_append_left _ (List.mem_append_left _ (List.mem_append_left _ (List.mem_of_getElem? (i := 17) rfl)))))), List.forall_mem_cons.mpr ⟨List.mem_cons_of_mem _ (List.mem_append_left _ (List.mem_append_left _ (List.mem_append_left _ (List.mem_append_left _ (List.mem_append_right _ (List.mem_append_left _ (List.mem_of_getElem? (i := 0) rfl))))))), List.forall_mem_cons.mpr ⟨List.mem_cons_of_mem _ (List.mem_append_left _ (List.mem_append_left _ (List.mem_append_left _ (List.mem_append_left _ (List.mem_append_left _ (List.mem_of_getElem? (i := 16) rfl)))))), List.forall_mem_cons.mpr ⟨List.mem_cons_of_mem _ (List.mem_append_left _ (List.mem_append_left _ (List.mem_append_left _ (List.mem_append_left _ (List.mem_append_right _ (List.mem_append_left _ (List.mem_of_getElem? (i := 1) rfl))))))), List.forall_mem_cons.mpr ⟨List.mem_cons_of_mem _ (List.mem_append_left _ (List.mem_append_left _ (List.mem_append_left _ (List.mem_append_left _ (List.mem_append_right _ (List.mem_append_left _ (List.mem_of_getElem? (i := 3) rfl))))))), List.forall_mem_cons.mpr ⟨List.mem_cons_of_mem _ (List.mem_append_left _ (List.mem_append_left _ (List.mem_append_left _ (List.mem_append_left _ (List.mem_append_right _ (List.mem_append_left _ (List.mem_of_getElem? (i := 4) rfl))))))), List.forall_mem_cons.mpr ⟨List.mem_cons_of_mem _ (List.mem_append_left _ (List.mem_append_left _ (List.mem_append_left _ (List.mem_append_left _ (List.mem_append_right _ (List.mem_append_left _ (List.mem_of_getElem? (i := 5) rfl))))))), List.forall_mem_cons.mpr ⟨List.mem_cons_of_mem _ (List.mem_append_left _ (List.mem_append_left _ (List.mem_append_left _ (List.mem_append_left _ (List.mem_append_right _ (List.mem_append_left _ (List.mem_of_getElem? (i := 7) rfl))))))), List.forall_mem_cons.mpr ⟨List.mem_cons_of_mem _ (List.mem_append_left _ (List.mem_append_left _ (List.mem_append_left _ (List.mem_append_left _ (List.mem_append_right _ (List.mem_append_left _ (List.mem_of_getElem? (i := 8) rfl))))))), List.forall_mem_cons.mpr ⟨List.mem_cons_of_mem _ (List.mem_append_left _ (List.mem_append_left _ (List.mem_append_left _ (List.mem_append_left _ (List.mem_append_right _ (List.mem_append_left _ (List.mem_of_getElem? (i := 9) rfl))))))), List.forall_mem_cons.mpr ⟨List.mem_cons_of_mem _ (List.mem_append_left _ (List.mem_append_left _ (List.mem_append_left _ (List.mem_append_left _ (List.mem_append_right _ (List.mem_append_left _ (List.mem_of_getElem? (i := 10) rfl))))))), List.forall_mem_cons.mpr ⟨List.mem_cons_of_mem _ (List.mem_append_left _ (List.mem_append_left _ (List.mem_append_left _ (List.mem_append_left _ (List.mem_append_right _ (List.mem_append_left _ (List.mem_of_getElem? (i := 11) rfl))))))), List.forall_mem_cons.mpr ⟨List.mem_cons_of_mem _ (List.mem_append_left _ (List.mem_append_left _ (List.mem_append_left _ (List.mem_append_left _ (List.mem_append_right _ (List.mem_append_left _ (List.mem_of_getElem? (i := 12) rfl))))))), nowords_in⟩⟩⟩⟩⟩⟩⟩⟩⟩⟩⟩⟩⟩⟩⟩⟩⟩⟩⟩⟩⟩⟩⟩⟩, List.forall_mem_cons.mpr ⟨List.mem_cons_of_mem _ (List.mem_append_left _ (List.mem_append_left _ (List.mem_append_left _ (List.mem_append_left _ (List.mem_append_right _ (List.mem_append_left _ (List.mem_of_getElem? (i := 13) rfl))))))), List.forall_mem_cons.mpr ⟨List.mem_cons_of_mem _ (List.mem_append_left _ (List.mem_append_left _ (List.mem_append_left _ (List.mem_append_left _ (List.mem_append_right _ (List.mem_append_left _ (List.mem_of_getElem? (i := 14) rfl))))))), List.forall_mem_cons.mpr ⟨List.mem_cons_of_mem _ (List.mem_append_left _ (List.mem_append_left _ (List.mem_append_left _ (List.mem_append_left _ (List.mem_append_right _ (List.mem_append_left _ (List.mem_of_getElem? (i := 15) rfl))))))), List.forall_mem_cons.mpr ⟨List.mem_cons_of_mem _ (List.mem_append_left _ (List.mem_append_left _ (List.mem_append_left _ (List.mem_append_left _ (List.mem_append_right _ (List.mem_append_left _ (List.mem_of_getElem? (i := 16) rfl))))))), List.forall_mem_cons.mpr ⟨List.mem_cons_of_mem _ (List.mem_append_left _ (List.mem_append_left _ (List.mem_append_left _ (List.mem_append_left _ (List.mem_append_right _ (List.mem_append_left _ (List.mem_of_getElem? (i := 17) rfl))))))), List.forall_mem_cons.mpr ⟨List.mem_cons_of_mem _ (List.mem_append_left _ (List.mem_append_left _ (List.mem_append_left _ (List.mem_append_left _ (List.mem_append_right _ (List.mem_append_left _ (List.mem_of_getElem? (i := 18) rfl))))))), List.forall_mem_cons.mpr ⟨List.mem_cons_of_mem _ (List.mem_append_left _ (List.mem_append_left _ (List.mem_append_left _ (List.mem_append_left _ (List.mem_append_right _ (List.mem_append_left _ (List.mem_of_getElem? (i := 19) rfl))))))), List.forall_mem_cons.mpr ⟨List.mem_cons_of_mem _ (List.mem_append_left _ (List.mem_append_left _ (List.mem_append_left _ (List.mem_append_left _ (List.mem_append_right _ (List.mem_append_left _ (List.mem_of_getElem? (i := 20) rfl))))))), List.forall_mem_cons.mpr ⟨List.mem_cons_of_mem _ (List.mem_append_left _ (List.mem_append_left _ (List.mem_append_left _ (List.mem_append_left _ (List.mem_append_right _ (List.mem_append_left _ (List.mem_of_getElem? (i := 21) rfl))))))), List.forall_mem_cons.mpr ⟨List.mem_cons_of_mem _ (List.mem_append_left _ (List.mem_append_left _ (List.mem_append_left _ (List.mem_append_left _ (List.mem_append_right _ (List.mem_append_left _ (List.mem_of_getElem? (i := 22) rfl))))))), List.forall_mem_cons.mpr ⟨List.mem_cons_of_mem _ (List.mem_append_left _ (List.mem_append_left _ (List.mem_append_left _ (List.mem_append_left _ (List.mem_append_right _ (List.mem_append_left _ (List.mem_of_getElem? (i := 23) rfl))))))), List.forall_mem_cons.mpr ⟨List.mem_cons_of_mem _ (List.mem_append_left _ (List.mem_append_left _ (List.mem_append_left _ (List.mem_append_left _ (List.mem_append_right _ (List.mem_append_right _ (List.mem_append_left _ (List.mem_of_getElem? (i := 0) rfl)))))))), List.forall_mem_cons.mpr ⟨List.mem_cons_of_mem _ (List.mem_append_left _ (List.mem_append_left _ (List.mem_append_left _ (List.mem_append_left _ (List.mem_append_right _ (List.mem_append_right _ (List.mem_append_left _ (List.mem_of_getElem? (i := 1) rfl)))))))), List.forall_mem_cons.mpr ⟨List.mem_cons_of_mem _ (List.mem_append_left _ (List.mem_append_left _ (List.mem_append_left _ (List.mem_append_left _ (List.mem_append_left _ (List.mem_of_getElem? (i := 18) rfl)))))), List.forall_mem_cons.mpr ⟨List.mem_cons_of_mem _ (List.mem_append_left _ (List.mem_append_left _ (List.mem_append_left _ (List.mem_append_left _ (List.mem_append_left _ (List.mem_of_getElem? (i := 19) rfl)))))), nowords_in⟩⟩⟩⟩⟩⟩⟩⟩⟩⟩⟩⟩⟩⟩⟩⟩, (fun _ h => List.mem_cons_of_mem _ (List.mem_append_left _ (List.mem_append_left _ (List.mem_append_right _ (h)))))⟩⟩)
set_option maxRecDepth 20000 in
theorem gX6_isRead_X8_passSign : GoodIn wsX6_isRead (wsV RX6 64 RX8 yX8_passSign wsX8_passSign) := goodIn_app (goodIn_by gd_X6_isRead (List.forall_mem_cons.mpr ⟨List.mem_cons_of_mem _ (List.mem_append_left _ (List.mem_append_left _ (List.mem_append_left _ (List.mem_append_left _ (List.mem_append_right _ (List.mem_append_right _ (List.mem_append_right _ (List.mem_append_right _ (List.mem_append_right _ (List.mem_of_getElem? (i := 11) rfl)))))))))), List.forall_mem_cons.mpr ⟨List.mem_cons_of_mem _ (List.mem_append_left _ (List.mem_append_left _ (List.mem_append_left _ (List.mem_append_left _ (List.mem_append_right _ (List.mem_append_right _ (List.mem_append_right _ (List.mem_append_right _ (List.mem_append_right _ (List.mem_of_getElem? (i := 12) rfl)))))))))), List.forall_mem_cons.mpr ⟨List.mem_cons_of_mem _ (List.mem_append_left _ (List.mem_append_left _ (List.mem_append_left _ (List.mem_append_left _ (List.mem_append_right _ (List.mem_append_right _ (List.mem_append_right _ (List.mem_append_right _ (List.mem_append_right _ (List.mem_of_getElem? (i := 13) rfl)))))))))), List.forall_mem_cons.mpr ⟨List.mem_cons_of_mem _ (List.mem_append_left _ (List.mem_append_left _ (List.mem_append_left _ (List.mem_append_left _ (List.mem_append_left _ (List.mem_of_getElem? (i := 14) rfl)))))), nowords_in⟩⟩⟩⟩)) ggX6_isRead_X8_passSign
set_option maxRecDepth 20000 in
theorem ggX6_isRead_X8_fail : GoodIn wsX6_isRead wsX8_fail := goodIn_by gd_X6_isRead (List.forall_mem_cons.mpr ⟨List.mem_cons_of_mem _ (List.mem_append_left _ (List.mem_append_left _ (List.mem_append_left _ (List.mem_append_left _ (List.mem_append_right _ (List.mem_append_right _ (List.mem_append_left _ (List.mem_of_getElem? (i := 1) rfl)))))))), List.forall_mem_append.mpr ⟨List.forall_mem_cons.mpr ⟨List.mem_cons_of_mem _ (List.mem_append_left _ (List.mem_append_left _ (List.mem_append_left _ (List.mem_append_left _ (List.mem_append_left _ (List.mem_of_getElem? (i := 18) rfl)))))), List.forall_mem_cons.mpr ⟨List.mem_cons_of_mem _ (List.mem_append_left _ (List.mem_append_left _ (List.mem_append_left _ (List.mem_append_left _ (List.mem_append_right _ (List.mem_append_left _ (List.mem_of_getElem? (i := 0) rfl))))))), List.forall_mem_cons.mpr ⟨List.mem_cons_of_mem _ (List.mem_append_left _ (List.mem_append_left _ (List.mem_append_left _ (List.mem_append_left _ (List.mem_append_left _ (List.mem_of_getElem? (i := 19) rfl)))))), nowords_in⟩⟩⟩, (fun _ h => List.mem_cons_of_mem _ (List.mem_append_left _ (List.mem_append_left _ (List.mem_append_right _ (h)))))⟩⟩)
set_option maxRecDepth 20000 in
theorem gX6_isRead_X8_fail : GoodIn wsX6_isRead (wsV RX6 71 RX8 yX8_fail wsX8_fail) := goodIn_app (goodIn_by gd_X6_isRead (List.forall_mem_cons.mpr ⟨List.mem_cons_of_mem _ (List.mem_append_left _ (List.mem_append_left _ (List.mem_append_left _ (List.mem_append_left _ (List.mem_append_right _ (List.mem_append_right _ (List.mem_append_left _ (List.mem_of_getElem? (i := 17) rfl)))))))), List.forall_mem_cons.mpr ⟨List.mem_cons_of_mem _ (List.mem_append_left _ (List.mem_append_left _ (List.mem_append_left _ (List.mem_append_left _ (List.mem_append_right _ (List.mem_append_left _ (List.mem_of_getElem? (i := 23) rfl))))))), List.forall_mem_cons.mpr ⟨List.mem_cons_of_mem _ (List.mem_append_left _ (List.mem_append_left _ (List.mem_append_left _ (List.mem_append_left _ (List.mem_append_right _ (List.mem_append_right _ (List.mem_append_left _ (List.mem_of_getElem? (i := 0) rfl)))))))), List.forall_mem_cons.mpr ⟨List.mem_cons_of_mem _ (List.mem_append_left _ (List.mem_append_left _ (List.mem_append_left _ (List.mem_append_left _ (List.mem_append_left _ (List.mem_of_getElem? (i := 14) rfl)))))), nowords_in⟩⟩⟩⟩)) ggX6_isRead_X8_fail
theorem dX6_isRead_0 : decode cX6_isRead 0 = .ok (.aload_n 0, 1) := by decide +kernel
theorem dX6_isRead_1 : decode cX6_isRead 1 = .ok (.getfield 26, 3) := by decide +kernel
theorem dX6_isRead_4 : decode cX6_isRead 4 = .ok (.invokevirtual 34, 3) := by decide +kernel
theorem dX6_isRead_7 : decode cX6_isRead 7 = .ok (.aload_n 0, 1) := by decide +kernel
theorem dX6_isRead_8 : decode cX6_isRead 8 = .ok (.iconst 0, 1) := by decide +kernel
theorem dX6_isRead_9 : decode cX6_isRead 9 = .ok (.putfield 15, 3) := by decide +kernel
theorem dX6_isRead_12 : decode cX6_isRead 12 = .ok (.aload_n 0, 1) := by decide +kernel
theorem dX6_isRead_13 : decode cX6_isRead 13 = .ok (.getfield 22, 3) := by decide +kernel
theorem dX6_isRead_16 : decode cX6_isRead 16 = .ok (.iload_n 1, 1) := by decide +kernel
theorem dX6_isRead_17 : decode cX6_isRead 17 = .ok (.invokevirtual 39, 3) := by decide +kernel
theorem dX6_isRead_20 : decode cX6_isRead 20 = .ok (.istore_n 2, 1) := by decide +kernel
theorem dX6_isRead_21 : decode cX6_isRead 21 = .ok (.iconst 0, 1) := by decide +kernel
theorem dX6_isRead_22 : decode cX6_isRead 22 = .ok (.istore_n 3, 1) := by decide +kernel
theorem dX6_isRead_23 : decode cX6_isRead 23 = .ok (.iload_n 3, 1) := by decide +kernel
theorem dX6_isRead_24 : decode cX6_isRead 24 = .ok (.bipush 60, 2) := by decide +kernel
theorem dX6_isRead_26 : decode cX6_isRead 26 = .ok (.if_icmp .gt 91, 3) := by decide +kernel
theorem dX6_isRead_29 : decode cX6_isRead 29 = .ok (.iload_n 2, 1) := by decide +kernel
theorem dX6_isRead_30 : decode cX6_isRead 30 = .ok (.ifCond .eq 87, 3) := by decide +kernel
theorem dX6_isRead_33 : decode cX6_isRead 33 = .ok (.aload_n 0, 1) := by decide +kernel
theorem dX6_isRead_34 : decode cX6_isRead 34 = .ok (.getfield 22, 3) := by decide +kernel
theorem dX6_isRead_37 : decode cX6_isRead 37 = .ok (.invokevirtual 45, 3) := by decide +kernel
theorem dX6_isRead_40 : decode cX6_isRead 40 = .ok (.ifCond .ne 77, 3) := by decide +kernel
theorem dX6_isRead_43 : decode cX6_isRead 43 = .ok (.aload_n 0, 1) := by decide +kernel
theorem dX6_isRead_44 : decode cX6_isRead 44 = .ok (.getfield 22, 3) := by decide +kernel
theorem dX6_isRead_47 : decode cX6_isRead 47 = .ok (.getfield 49, 3) := by decide +kernel
theorem dX6_isRead_50 : decode cX6_isRead 50 = .ok (.bipush 28, 2) := by decide +kernel
theorem dX6_isRead_52 : decode cX6_isRead 52 = .ok (.if_icmp .ne 10, 3) := by decide +kernel
theorem dX6_isRead_55 : decode cX6_isRead 55 = .ok (.aload_n 0, 1) := by decide +kernel
theorem dX6_isRead_56 : decode cX6_isRead 56 = .ok (.invokevirtual 52, 3) := by decide +kernel
theorem dX6_isRead_59 : decode cX6_isRead 59 = .ok (.goto 29, 3) := by decide +kernel
theorem dX6_isRead_62 : decode cX6_isRead 62 = .ok (.aload_n 0, 1) := by decide +kernel
theorem dX6_isRead_63 : decode cX6_isRead 63 = .ok (.invokevirtual 55, 3) := by decide +kernel
theorem dX6_isRead_66 : decode cX6_isRead 66 = .ok (.ifCond .eq 21, 3) := by decide +kernel
theorem dX6_isRead_69 : decode cX6_isRead 69 = .ok (.aload_n 0, 1) := by decide +kernel
theorem dX6_isRead_70 : decode cX6_isRead 70 = .ok (.invokevirtual 58, 3) := by decide +kernel
theorem dX6_isRead_73 : decode cX6_isRead 73 = .ok (.ifCond .eq 14, 3) := by decide +kernel
theorem dX6_isRead_76 : decode cX6_isRead 76 = .ok (.aload_n 0, 1) := by decide +kernel
theorem dX6_isRead_77 : decode cX6_isRead 77 = .ok (.invokevirtual 61, 3) := by decide +kernel
theorem dX6_isRead_80 : decode cX6_isRead 80 = .ok (.ifCond .eq 7, 3) := by decide +kernel
theorem dX6_isRead_83 : decode cX6_isRead 83 = .ok (.iconst 1, 1) := by decide +kernel
theorem dX6_isRead_84 : decode cX6_isRead 84 = .ok (.goto 4, 3) := by decide +kernel
theorem dX6_isRead_87 : decode cX6_isRead 87 = .ok (.iconst 0, 1) := by decide +kernel
theorem dX6_isRead_88 : decode cX6_isRead 88 = .ok (.istore_n 2, 1) := by decide +kernel
theorem dX6_isRead_89 : decode cX6_isRead 89 = .ok (.iload_n 2, 1) := by decide +kernel
theorem dX6_isRead_90 : decode cX6_isRead 90 = .ok (.ifCond .eq 19, 3) := by decide +kernel
theorem dX6_isRead_93 : decode cX6_isRead 93 = .ok (.aload_n 0, 1) := by decide +kernel
theorem dX6_isRead_94 : decode cX6_isRead 94 = .ok (.getfield 22, 3) := by decide +kernel
theorem dX6_isRead_97 : decode cX6_isRead 97 = .ok (.bipush 59, 2) := by decide +kernel
theorem dX6_isRead_99 : decode cX6_isRead 99 = .ok (.invokevirtual 64, 3) := by decide +kernel
theorem dX6_isRead_102 : decode cX6_isRead 102 = .ok (.ifCond .eq 7, 3) := by decide +kernel
theorem dX6_isRead_105 : decode cX6_isRead 105 = .ok (.iconst 1, 1) := by decide +kernel
theorem dX6_isRead_106 : decode cX6_isRead 106 = .ok (.goto 4, 3) := by decide +kernel
theorem dX6_isRead_109 : decode cX6_isRead 109 = .ok (.iconst 0, 1) := by decide +kernel
theorem dX6_isRead_110 : decode cX6_isRead 110 = .ok (.istore_n 2, 1) := by decide +kernel
theorem dX6_isRead_111 : decode cX6_isRead 111 = .ok (.iinc 3 1, 3) := by decide +kernel
theorem dX6_isRead_114 : decode cX6_isRead 114 = .ok (.goto (-91), 3) := by decide +kernel
theorem dX6_isRead_117 : decode cX6_isRead 117 = .ok (.aload_n 0, 1) := by decide +kernel
theorem dX6_isRead_118 : decode cX6_isRead 118 = .ok (.getfield 26, 3) := by decide +kernel
theorem dX6_isRead_121 : decode cX6_isRead 121 = .ok (.iconst 1, 1) := by decide +kernel
theorem dX6_isRead_122 : decode cX6_isRead 122 = .ok (.putfield 67, 3) := by decide +kernel
theorem dX6_isRead_125 : decode cX6_isRead 125 = .ok (.iload_n 2, 1) := by decide +kernel
theorem dX6_isRead_126 : decode cX6_isRead 126 = .ok (.ifCond .eq 25, 3) := by decide +kernel
theorem dX6_isRead_129 : decode cX6_isRead 129 = .ok (.aload_n 0, 1) := by decide +kernel
theorem dX6_isRead_130 : decode cX6_isRead 130 = .ok (.getfield 15, 3) := by decide +kernel
theorem dX6_isRead_133 : decode cX6_isRead 133 = .ok (.ifCond .eq 14, 3) := by decide +kernel
theorem dX6_isRead_136 : decode cX6_isRead 136 = .ok (.aload_n 0, 1) := by decide +kernel
theorem dX6_isRead_137 : decode cX6_isRead 137 = .ok (.getfield 22, 3) := by decide +kernel
theorem dX6_isRead_140 : decode cX6_isRead 140 = .ok (.iconst 2, 1) := by decide +kernel
theorem dX6_isRead_141 : decode cX6_isRead 141 = .ok (.invokevirtual 71, 3) := by decide +kernel
theorem dX6_isRead_144 : decode cX6_isRead 144 = .ok (.ifCond .eq 7, 3) := by decide +kernel
theorem dX6_isRead_147 : decode cX6_isRead 147 = .ok (.iconst 1, 1) := by decide +kernel
theorem dX6_isRead_148 : decode cX6_isRead 148 = .ok (.goto 4, 3) := by decide +kernel
theorem dX6_isRead_151 : decode cX6_isRead 151 = .ok (.iconst 0, 1) := by decide +kernel
theorem dX6_isRead_152 : decode cX6_isRead 152 = .ok (.ireturn, 1) := by decide +kernel
abbrev rmX6_isRead : Room := { frames := 6, cells := 0, slots := 0, locals := 127 }
set_option maxHeartbeats 4000000 in
set_option maxRecDepth 100000 in
theorem kX6_isRead (l : Launch) (D : va_G) (cy : Nat → ClassId) (h0 : Nat) (a0 : Nat → Nat) (a1 : Nat → Nat) (a2 : Nat → Nat) (a3 : Nat → Nat) (s0 : Rc) (s1 : Rc) (s2 : Rc) (s3 : Rc) (p1 : Int32) (res : Int32 × Rc × Rc × Rc) (h : fX6_isRead p1 s0 s1 s2 s3 = some res) : CZ l D cy yX6_isRead wsX6_isRead rmX6_isRead [.ref h0, .int p1] (flat [WX6 cy h0 a0 s0, WX8 cy (a0 0) a1 s1, WX5 cy (a0 1) a2 s2, WX0 cy (a0 2) a3 s3]) (flat [WX6 cy h0 a0 res.2.1, WX8 cy (a0 0) a1 res.2.2.1, WX5 cy (a0 1) a2 res.2.2.2, WX0 cy (a0 2) a3 s3]) res.1 := by
  refine CZ.of (cc := cX6_isRead) (maxL := 4) (by decide) rfl (Nat.le_of_ble_eq_true rfl) ?_
  intro p e s m args below meth c A QQ ls E hr
  obtain ⟨hx, hb, hml, hown, hts, hK, hN, hP, hD, hA, hl⟩ := E
  have hret : ∀ (pc : Nat) (H : Heap) (locs : List Loc) (ls : Array Slot) (u : Int32 × Rc × Rc × Rc), u = res → va_P D vwCl (flat [WX6 cy h0 a0 u.2.1, WX8 cy (a0 0) a1 u.2.2.1, WX5 cy (a0 1) a2 u.2.2.2, WX0 cy (a0 2) a3 s3]) H → va_D A (flat [WX6 cy h0 a0 u.2.1, WX8 cy (a0 0) a1 u.2.2.1, WX5 cy (a0 1) a2 u.2.2.2, WX0 cy (a0 2) a3 s3]) → va_S A s.heap H locs → isb u.1 = true → decode cX6_isRead pc = .ok (.ireturn, 1) → W p l e rmX6_isRead s m args below meth c H locs 0 0 QQ (F0 m pc ls [.int u.1]) := by
    intro pc H locs ls u hu hP hD hS hz hd; subst hu; exact hr pc H locs ls _ rfl hP hD hS hz hd
  clear hr
  have hl : lv_has ls 4 [(0, .ref h0), (1, .int p1)] := hl
  have hinX5 : ∀ w ∈ wsX50, w ∈ wsX6_isRead := fun _ h => List.mem_cons_of_mem _ (List.mem_append_left _ (List.mem_append_right _ h))
  have hinX6 : ∀ w ∈ wsX60, w ∈ wsX6_isRead := fun _ h => List.mem_cons_of_mem _ (List.mem_append_left _ (List.mem_append_left _ (List.mem_append_left _ (List.mem_append_right _ h))))
  have hinX8 : ∀ w ∈ wsX80, w ∈ wsX6_isRead := fun _ h => List.mem_cons_of_mem _ (List.mem_append_left _ (List.mem_append_left _ (List.mem_append_right _ h)))
  unfold fX6_isRead at h
  suffices key : ∀ (H : Heap) (locs : List Loc), va_P D vwCl (flat [WX6 cy h0 a0 s0, WX8 cy (a0 0) a1 s1, WX5 cy (a0 1) a2 s2, WX0 cy (a0 2) a3 s3]) H → va_S A s.heap H locs → W p l e rmX6_isRead s m args below meth c H locs 0 0 QQ (F0 m 0 ls []) from key _ _ hP va_S.rf
  clear hP
  intro H locs hP hS
  have J117 : ∀ (y117_2 : Int32) (t117_0 : Rc) (t117_1 : Rc) (t117_2 : Rc) (H : Heap) (locs : List Loc) (ls : Array Slot), lv_has ls 4 [(0, .ref h0), (2, .int y117_2)] → va_P D vwCl (flat [WX6 cy h0 a0 t117_0, WX8 cy (a0 0) a1 t117_1, WX5 cy (a0 1) a2 t117_2, WX0 cy (a0 2) a3 s3]) H → va_D A (flat [WX6 cy h0 a0 t117_0, WX8 cy (a0 0) a1 t117_1, WX5 cy (a0 1) a2 t117_2, WX0 cy (a0 2) a3 s3]) → va_S A s.heap H locs → fX6_isRead_J117 y117_2 t117_0 t117_1 t117_2 = some res → W p l e rmX6_isRead s m args below meth c H locs 0 0 QQ (F0 m 117 ls []) := by
    intro y117_2 t117_0 t117_1 t117_2 H locs ls hl hP hD hS h
    unfold fX6_isRead_J117 at h
    refine lv_aload_n hx hb dX6_isRead_117 rfl (lv_at hl 0 rfl) ?_
    refine va_get (D := D) (ci := 6) (v := .ref (a0 1)) (C := RX6) (T := TX6) (N := 6) hx hb hts hinX6 hown hK hP 0 rfl rfl 1 (by decide) (hts (.fieldLink RX6 26 "KneeBench$SeasonText" "draft" "LKneeBench$Season;") (List.mem_of_getElem? (i := 1) rfl)) (fun _ h9 => h9) rfl dX6_isRead_118 ?_
    refine lv_iconst (v := 1) hx hb dX6_isRead_121 (by decide) ?_
    obtain ⟨s2_1, es, h⟩ := lt_elim h
    refine va_putN (D := D) (ci := 5) (v := .int (1 : Int32)) (ty := .boolean) (C := RX5) (T := TX5) (N := 8) hx hb hts hinX5 tyX5 tyX5_ok nmX5 hown hK hP hD hS 5 rfl rfl 7 (by decide) (NW.fld hN 37 rfl _) (fun _ h9 => h9) rfl (by decide +kernel) (isb_nar (show isb (1 : Int32) = true by decide)) (isb_fit (show isb (1 : Int32) = true by decide)) (Nat.le_of_ble_eq_true rfl) dX6_isRead_122 (fun H locs hP hD hS => ?_)
    have hP : va_P D vwCl (flat [WX6 cy h0 a0 t117_0, WX8 cy (a0 0) a1 t117_1, WX5 cy (a0 1) a2 s2_1, WX0 cy (a0 2) a3 s3]) H := by rw [es]; exact hP
    have hD : va_D A (flat [WX6 cy h0 a0 t117_0, WX8 cy (a0 0) a1 t117_1, WX5 cy (a0 1) a2 s2_1, WX0 cy (a0 2) a3 s3]) := by rw [es]; exact hD
    clear es
    refine lv_iload_n hx hb dX6_isRead_125 rfl (lv_at hl 1 rfl) ?_
    refine lv_if_eq (tgt := 151) hx hb dX6_isRead_126 (by decide) (fun c2 => ?_) (fun c2 => ?_)
    · replace h := (if_pos c2).symm.trans h
      refine lv_iconst (v := 0) hx hb dX6_isRead_151 (by decide) ?_
      exact hret 152 H locs ls ((0 : Int32), t117_0, t117_1, s2_1) (Option.some.inj h) hP hD hS (show isb (0 : Int32) = true by decide) dX6_isRead_152
    · replace h := (if_neg c2).symm.trans h
      refine lv_aload_n hx hb dX6_isRead_129 rfl (lv_at hl 0 rfl) ?_
      refine va_get (D := D) (ci := 6) (v := .int (gi t117_0 4)) (C := RX6) (T := TX6) (N := 6) hx hb hts hinX6 hown hK hP 0 rfl rfl 4 (by decide) (hts (.fieldLink RX6 15 "KneeBench$SeasonText" "depth" "I") (List.mem_of_getElem? (i := 2) rfl)) (fun _ h9 => h9) rfl dX6_isRead_130 ?_
      refine lv_if_eq (tgt := 147) hx hb dX6_isRead_133 (by decide) (fun c3 => ?_) (fun c3 => ?_)
      · replace h := (if_pos c3).symm.trans h
        refine lv_iconst (v := 1) hx hb dX6_isRead_147 (by decide) ?_
        refine lv_goto (tgt := 152) hx hb dX6_isRead_148 (by decide) ?_
        exact hret 152 H locs ls ((1 : Int32), t117_0, t117_1, s2_1) (Option.some.inj h) hP hD hS (show isb (1 : Int32) = true by decide) dX6_isRead_152
      · replace h := (if_neg c3).symm.trans h
        refine lv_aload_n hx hb dX6_isRead_136 rfl (lv_at hl 0 rfl) ?_
        refine va_get (D := D) (ci := 6) (v := .ref (a0 0)) (C := RX6) (T := TX6) (N := 6) hx hb hts hinX6 hown hK hP 0 rfl rfl 0 (by decide) (hts (.fieldLink RX6 22 "KneeBench$SeasonText" "tokens" "LKneeBench$Tokens;") (List.mem_of_getElem? (i := 3) rfl)) (fun _ h9 => h9) rfl dX6_isRead_137 ?_
        refine lv_iconst (v := 2) hx hb dX6_isRead_140 (by decide) ?_
        obtain ⟨r4, hr4, h⟩ := lt_elim h
        refine ca_z (w' := [WX6 cy h0 a0 t117_0, WX8 cy (a0 0) a1 r4.2, WX5 cy (a0 1) a2 s2_1, WX0 cy (a0 2) a3 s3]) (rn_V (As := [.int (2 : Int32)]) (rest := []) ⟨hx, hb, hml, hown, hts⟩ (kX8_fail l D cy (a0 0) a1 t117_1 (2 : Int32) r4 hr4.symm H.size) (cwV 1 hts gX6_isRead_X8_fail rfl rfl rfl (by decide +kernel) ⟨Nat.le_of_ble_eq_true rfl, Nat.le_of_ble_eq_true rfl⟩) hK hN hP hD [1] rfl rfl (ci := 8) (q0 := 2) rfl rfl rfl rfl hl.1 rfl (Nat.le_of_ble_eq_true rfl) dX6_isRead_141 ⟨Nat.le_refl 0, Nat.le_refl 0⟩) hP hD hS hA [1] ⟨rfl, rfl, rfl, rfl⟩ (fun b5 H locs hP hD hS => ?_)
        refine lv_if_eq (tgt := 151) hx hb dX6_isRead_144 (by decide) (fun c6 => ?_) (fun c6 => ?_)
        · replace h := (if_pos c6).symm.trans h
          refine lv_iconst (v := 0) hx hb dX6_isRead_151 (by decide) ?_
          exact hret 152 H locs ls ((0 : Int32), t117_0, r4.2, s2_1) (Option.some.inj h) hP hD hS (show isb (0 : Int32) = true by decide) dX6_isRead_152
        · replace h := (if_neg c6).symm.trans h
          refine lv_iconst (v := 1) hx hb dX6_isRead_147 (by decide) ?_
          refine lv_goto (tgt := 152) hx hb dX6_isRead_148 (by decide) ?_
          exact hret 152 H locs ls ((1 : Int32), t117_0, r4.2, s2_1) (Option.some.inj h) hP hD hS (show isb (1 : Int32) = true by decide) dX6_isRead_152
  refine lv_aload_n hx hb dX6_isRead_0 rfl (lv_at hl 0 rfl) ?_
  refine va_get (D := D) (ci := 6) (v := .ref (a0 1)) (C := RX6) (T := TX6) (N := 6) hx hb hts hinX6 hown hK hP 0 rfl rfl 1 (by decide) (hts (.fieldLink RX6 26 "KneeBench$SeasonText" "draft" "LKneeBench$Season;") (List.mem_of_getElem? (i := 1) rfl)) (fun _ h9 => h9) rfl dX6_isRead_1 ?_
  obtain ⟨r7, hr7, h⟩ := lt_elim h
  refine ca_v (w' := [WX6 cy h0 a0 s0, WX8 cy (a0 0) a1 s1, WX5 cy (a0 1) a2 r7, WX0 cy (a0 2) a3 s3]) (rn_V (As := []) (rest := []) ⟨hx, hb, hml, hown, hts⟩ (kX5_empty l D cy (a0 1) a2 s2 r7 hr7.symm H.size) (cwV 0 hts gX6_isRead_X5_empty rfl rfl rfl (by decide +kernel) ⟨Nat.le_of_ble_eq_true rfl, Nat.le_of_ble_eq_true rfl⟩) hK hN hP hD [2] rfl rfl (ci := 5) (q0 := 5) rfl rfl rfl rfl hl.1 rfl (Nat.le_of_ble_eq_true rfl) dX6_isRead_4 ⟨Nat.le_refl 0, Nat.le_refl 0⟩) hP hD hS hA [2] ⟨rfl, rfl, rfl, rfl⟩ (fun H locs hP hD hS => ?_)
  refine lv_aload_n hx hb dX6_isRead_7 rfl (lv_at hl 0 rfl) ?_
  refine lv_iconst (v := 0) hx hb dX6_isRead_8 (by decide) ?_
  obtain ⟨s0_8, es, h⟩ := lt_elim h
  refine va_put (D := D) (ci := 6) (v := .int (0 : Int32)) (ty := .int) (C := RX6) (T := TX6) (N := 6) hx hb hts hinX6 tyX6 tyX6_ok nmX6 hown hK hP hD hS 0 rfl rfl 4 (by decide) (hts (.fieldLink RX6 15 "KneeBench$SeasonText" "depth" "I") (List.mem_of_getElem? (i := 2) rfl)) (fun _ h9 => h9) rfl (by decide +kernel) rfl rfl (Nat.le_of_ble_eq_true rfl) dX6_isRead_9 (fun H locs hP hD hS => ?_)
  have hP : va_P D vwCl (flat [WX6 cy h0 a0 s0_8, WX8 cy (a0 0) a1 s1, WX5 cy (a0 1) a2 r7, WX0 cy (a0 2) a3 s3]) H := by rw [es]; exact hP
  have hD : va_D A (flat [WX6 cy h0 a0 s0_8, WX8 cy (a0 0) a1 s1, WX5 cy (a0 1) a2 r7, WX0 cy (a0 2) a3 s3]) := by rw [es]; exact hD
  clear es
  refine lv_aload_n hx hb dX6_isRead_12 rfl (lv_at hl 0 rfl) ?_
  refine va_get (D := D) (ci := 6) (v := .ref (a0 0)) (C := RX6) (T := TX6) (N := 6) hx hb hts hinX6 hown hK hP 0 rfl rfl 0 (by decide) (hts (.fieldLink RX6 22 "KneeBench$SeasonText" "tokens" "LKneeBench$Tokens;") (List.mem_of_getElem? (i := 3) rfl)) (fun _ h9 => h9) rfl dX6_isRead_13 ?_
  refine lv_iload_n hx hb dX6_isRead_16 rfl (lv_at hl 1 rfl) ?_
  obtain ⟨r9, hr9, h⟩ := bd_elim h
  refine ca_z (w' := [WX6 cy h0 a0 s0_8, WX8 cy (a0 0) a1 r9.2, WX5 cy (a0 1) a2 r7, WX0 cy (a0 2) a3 s3]) (rn_V (As := [.int p1]) (rest := []) ⟨hx, hb, hml, hown, hts⟩ (kX8_begin l D cy (a0 0) a1 s1 p1 r9 hr9 H.size) (cwV 1 hts gX6_isRead_X8_begin rfl rfl rfl (by decide +kernel) ⟨Nat.le_of_ble_eq_true rfl, Nat.le_of_ble_eq_true rfl⟩) hK hN hP hD [1] rfl rfl (ci := 8) (q0 := 2) rfl rfl rfl rfl hl.1 rfl (Nat.le_of_ble_eq_true rfl) dX6_isRead_17 ⟨Nat.le_refl 0, Nat.le_refl 0⟩) hP hD hS hA [1] ⟨rfl, rfl, rfl, rfl⟩ (fun b10 H locs hP hD hS => ?_)
  refine lv_istore_n (lv' := [(2, .int r9.1), (0, .ref h0), (1, .int p1)]) hx hb dX6_isRead_20 rfl hl (by decide) rfl (fun ls hl => ?_)
  refine lv_iconst (v := 0) hx hb dX6_isRead_21 (by decide) ?_
  refine lv_istore_n (lv' := [(3, .int (0 : Int32)), (2, .int r9.1), (0, .ref h0), (1, .int p1)]) hx hb dX6_isRead_22 rfl hl (by decide) rfl (fun ls hl => ?_)
  have L23 : ∀ (n : Nat) (q23 : Int32 × Int32 × Rc × Rc × Rc) (o : Int32 × Rc × Rc × Rc), loopO (fX6_isRead_L23 s3) n q23 = some o → ∀ (H : Heap) (locs : List Loc) (ls : Array Slot), lv_has ls 4 [(0, .ref h0), (2, .int q23.1), (3, .int q23.2.1)] → va_P D vwCl (flat [WX6 cy h0 a0 q23.2.2.1, WX8 cy (a0 0) a1 q23.2.2.2.1, WX5 cy (a0 1) a2 q23.2.2.2.2, WX0 cy (a0 2) a3 s3]) H → va_D A (flat [WX6 cy h0 a0 q23.2.2.1, WX8 cy (a0 0) a1 q23.2.2.2.1, WX5 cy (a0 1) a2 q23.2.2.2.2, WX0 cy (a0 2) a3 s3]) → va_S A s.heap H locs → ∀ (kk117 : ∀ (H : Heap) (locs : List Loc) (ls : Array Slot), lv_has ls 4 [(0, .ref h0), (2, .int o.1)] → va_P D vwCl (flat [WX6 cy h0 a0 o.2.1, WX8 cy (a0 0) a1 o.2.2.1, WX5 cy (a0 1) a2 o.2.2.2, WX0 cy (a0 2) a3 s3]) H → va_D A (flat [WX6 cy h0 a0 o.2.1, WX8 cy (a0 0) a1 o.2.2.1, WX5 cy (a0 1) a2 o.2.2.2, WX0 cy (a0 2) a3 s3]) → va_S A s.heap H locs → W p l e rmX6_isRead s m args below meth c H locs 0 0 QQ (F0 m 117 ls [])), W p l e rmX6_isRead s m args below meth c H locs 0 0 QQ (F0 m 23 ls []) := by
    intro n
    induction n with
    | zero => intro q23 o h; exact absurd h (by rw [loopO_zero]; intro z; cases z)
    | succ n ih =>
      intro q23 o h H locs ls hl hP hD hS kk117
      obtain ⟨w, h, hgo, hst⟩ := loopO_elim h
      unfold fX6_isRead_L23 at h
      have J88 : ∀ (z88_0 : Int32) (t88_0 : Rc) (t88_1 : Rc) (t88_2 : Rc) (H : Heap) (locs : List Loc) (ls : Array Slot), lv_has ls 4 [(0, .ref h0), (3, .int q23.2.1)] → va_P D vwCl (flat [WX6 cy h0 a0 t88_0, WX8 cy (a0 0) a1 t88_1, WX5 cy (a0 1) a2 t88_2, WX0 cy (a0 2) a3 s3]) H → va_D A (flat [WX6 cy h0 a0 t88_0, WX8 cy (a0 0) a1 t88_1, WX5 cy (a0 1) a2 t88_2, WX0 cy (a0 2) a3 s3]) → va_S A s.heap H locs → fX6_isRead_J88 q23 z88_0 t88_0 t88_1 t88_2 = some w → W p l e rmX6_isRead s m args below meth c H locs 0 0 QQ (F0 m 88 ls [.int z88_0]) := by
        intro z88_0 t88_0 t88_1 t88_2 H locs ls hl hP hD hS h
        unfold fX6_isRead_J88 at h
        refine lv_istore_n (lv' := [(2, .int z88_0), (0, .ref h0), (3, .int q23.2.1)]) hx hb dX6_isRead_88 rfl hl (by decide) rfl (fun ls hl => ?_)
        refine lv_iload_n hx hb dX6_isRead_89 rfl (lv_at hl 0 rfl) ?_
        refine lv_if_eq (tgt := 109) hx hb dX6_isRead_90 (by decide) (fun c11 => ?_) (fun c11 => ?_)
        · replace h := (if_pos c11).symm.trans h
          refine lv_iconst (v := 0) hx hb dX6_isRead_109 (by decide) ?_
          refine lv_istore_n (lv' := [(2, .int (0 : Int32)), (0, .ref h0), (3, .int q23.2.1)]) hx hb dX6_isRead_110 rfl hl (by decide) rfl (fun ls hl => ?_)
          refine lv_iinc (v := (q23.2.1 + (1 : Int32))) (lv' := [(3, .int (q23.2.1 + (1 : Int32))), (2, .int (0 : Int32)), (0, .ref h0)]) hx hb dX6_isRead_111 hl (k := 2) rfl rfl (by decide) rfl (fun ls hl => ?_)
          refine lv_goto (tgt := 23) hx hb dX6_isRead_114 (by decide) ?_
          exact ih _ o (hgo _ (Option.some.inj h).symm) H locs ls (lv_sub hl [2, 1, 0] rfl) hP hD hS kk117
        · replace h := (if_neg c11).symm.trans h
          refine lv_aload_n hx hb dX6_isRead_93 rfl (lv_at hl 1 rfl) ?_
          refine va_get (D := D) (ci := 6) (v := .ref (a0 0)) (C := RX6) (T := TX6) (N := 6) hx hb hts hinX6 hown hK hP 0 rfl rfl 0 (by decide) (hts (.fieldLink RX6 22 "KneeBench$SeasonText" "tokens" "LKneeBench$Tokens;") (List.mem_of_getElem? (i := 3) rfl)) (fun _ h9 => h9) rfl dX6_isRead_94 ?_
          refine lv_bipush (v := 59) hx hb dX6_isRead_97 (by decide) ?_
          obtain ⟨r12, hr12, h⟩ := bd_elim h
          refine ca_z (w' := [WX6 cy h0 a0 t88_0, WX8 cy (a0 0) a1 r12.2, WX5 cy (a0 1) a2 t88_2, WX0 cy (a0 2) a3 s3]) (rn_V (As := [.int (59 : Int32)]) (rest := []) ⟨hx, hb, hml, hown, hts⟩ (kX8_passSign l D cy (a0 0) a1 t88_1 (59 : Int32) r12 hr12 H.size) (cwV 1 hts gX6_isRead_X8_passSign rfl rfl rfl (by decide +kernel) ⟨Nat.le_of_ble_eq_true rfl, Nat.le_of_ble_eq_true rfl⟩) hK hN hP hD [1] rfl rfl (ci := 8) (q0 := 2) rfl rfl rfl rfl hl.1 rfl (Nat.le_of_ble_eq_true rfl) dX6_isRead_99 ⟨Nat.le_refl 0, Nat.le_refl 0⟩) hP hD hS hA [1] ⟨rfl, rfl, rfl, rfl⟩ (fun b13 H locs hP hD hS => ?_)
          refine lv_if_eq (tgt := 109) hx hb dX6_isRead_102 (by decide) (fun c14 => ?_) (fun c14 => ?_)
          · replace h := (if_pos c14).symm.trans h
            refine lv_iconst (v := 0) hx hb dX6_isRead_109 (by decide) ?_
            refine lv_istore_n (lv' := [(2, .int (0 : Int32)), (0, .ref h0), (3, .int q23.2.1)]) hx hb dX6_isRead_110 rfl hl (by decide) rfl (fun ls hl => ?_)
            refine lv_iinc (v := (q23.2.1 + (1 : Int32))) (lv' := [(3, .int (q23.2.1 + (1 : Int32))), (2, .int (0 : Int32)), (0, .ref h0)]) hx hb dX6_isRead_111 hl (k := 2) rfl rfl (by decide) rfl (fun ls hl => ?_)
            refine lv_goto (tgt := 23) hx hb dX6_isRead_114 (by decide) ?_
            exact ih _ o (hgo _ (Option.some.inj h).symm) H locs ls (lv_sub hl [2, 1, 0] rfl) hP hD hS kk117
          · replace h := (if_neg c14).symm.trans h
            refine lv_iconst (v := 1) hx hb dX6_isRead_105 (by decide) ?_
            refine lv_goto (tgt := 110) hx hb dX6_isRead_106 (by decide) ?_
            refine lv_istore_n (lv' := [(2, .int (1 : Int32)), (0, .ref h0), (3, .int q23.2.1)]) hx hb dX6_isRead_110 rfl hl (by decide) rfl (fun ls hl => ?_)
            refine lv_iinc (v := (q23.2.1 + (1 : Int32))) (lv' := [(3, .int (q23.2.1 + (1 : Int32))), (2, .int (1 : Int32)), (0, .ref h0)]) hx hb dX6_isRead_111 hl (k := 2) rfl rfl (by decide) rfl (fun ls hl => ?_)
            refine lv_goto (tgt := 23) hx hb dX6_isRead_114 (by decide) ?_
            exact ih _ o (hgo _ (Option.some.inj h).symm) H locs ls (lv_sub hl [2, 1, 0] rfl) hP hD hS kk117
      have J87 : ∀ (t87_0 : Rc) (t87_1 : Rc) (t87_2 : Rc) (H : Heap) (locs : List Loc) (ls : Array Slot), lv_has ls 4 [(0, .ref h0), (3, .int q23.2.1)] → va_P D vwCl (flat [WX6 cy h0 a0 t87_0, WX8 cy (a0 0) a1 t87_1, WX5 cy (a0 1) a2 t87_2, WX0 cy (a0 2) a3 s3]) H → va_D A (flat [WX6 cy h0 a0 t87_0, WX8 cy (a0 0) a1 t87_1, WX5 cy (a0 1) a2 t87_2, WX0 cy (a0 2) a3 s3]) → va_S A s.heap H locs → fX6_isRead_J87 q23 t87_0 t87_1 t87_2 = some w → W p l e rmX6_isRead s m args below meth c H locs 0 0 QQ (F0 m 87 ls []) := by
        intro t87_0 t87_1 t87_2 H locs ls hl hP hD hS h
        unfold fX6_isRead_J87 at h
        refine lv_iconst (v := 0) hx hb dX6_isRead_87 (by decide) ?_
        exact J88 (0 : Int32) t87_0 t87_1 t87_2 H locs ls (lv_sub hl [0, 1] rfl) hP hD hS h
      refine lv_iload_n hx hb dX6_isRead_23 rfl (lv_at hl 2 rfl) ?_
      refine lv_bipush (v := 60) hx hb dX6_isRead_24 (by decide) ?_
      refine lv_icmp_gt (tgt := 117) hx hb dX6_isRead_26 (by decide) (fun c15 => ?_) (fun c15 => ?_)
      · replace h := (if_pos c15).symm.trans h
        have eo := hst _ (Option.some.inj h).symm
        subst eo
        exact kk117 H locs ls (lv_sub hl [0, 1] rfl) hP hD hS
      · replace h := (if_neg c15).symm.trans h
        refine lv_iload_n hx hb dX6_isRead_29 rfl (lv_at hl 1 rfl) ?_
        refine lv_if_eq (tgt := 117) hx hb dX6_isRead_30 (by decide) (fun c16 => ?_) (fun c16 => ?_)
        · replace h := (if_pos c16).symm.trans h
          have eo := hst _ (Option.some.inj h).symm
          subst eo
          exact kk117 H locs ls (lv_sub hl [0, 1] rfl) hP hD hS
        · replace h := (if_neg c16).symm.trans h
          refine lv_aload_n hx hb dX6_isRead_33 rfl (lv_at hl 0 rfl) ?_
          refine va_get (D := D) (ci := 6) (v := .ref (a0 0)) (C := RX6) (T := TX6) (N := 6) hx hb hts hinX6 hown hK hP 0 rfl rfl 0 (by decide) (hts (.fieldLink RX6 22 "KneeBench$SeasonText" "tokens" "LKneeBench$Tokens;") (List.mem_of_getElem? (i := 3) rfl)) (fun _ h9 => h9) rfl dX6_isRead_34 ?_
          refine ca_z (w' := [WX6 cy h0 a0 q23.2.2.1, WX8 cy (a0 0) a1 q23.2.2.2.1, WX5 cy (a0 1) a2 q23.2.2.2.2, WX0 cy (a0 2) a3 s3]) (rn_V (As := []) (rest := []) ⟨hx, hb, hml, hown, hts⟩ (kX8_isAtEnd l D cy (a0 0) a1 q23.2.2.2.1 _ rfl H.size) (cwV 0 hts gX6_isRead_X8_isAtEnd rfl rfl rfl (by decide +kernel) ⟨Nat.le_of_ble_eq_true rfl, Nat.le_of_ble_eq_true rfl⟩) hK hN hP hD [1] rfl rfl (ci := 8) (q0 := 2) rfl rfl rfl rfl hl.1 rfl (Nat.le_of_ble_eq_true rfl) dX6_isRead_37 ⟨Nat.le_refl 0, Nat.le_refl 0⟩) hP hD hS hA [1] ⟨rfl, rfl, rfl, rfl⟩ (fun b17 H locs hP hD hS => ?_)
          refine lv_if_ne (tgt := 117) hx hb dX6_isRead_40 (by decide) (fun c18 => ?_) (fun c18 => ?_)
          · replace h := (if_neg c18).symm.trans h
            have eo := hst _ (Option.some.inj h).symm
            subst eo
            exact kk117 H locs ls (lv_sub hl [0, 1] rfl) hP hD hS
          · replace h := (if_pos c18).symm.trans h
            refine lv_aload_n hx hb dX6_isRead_43 rfl (lv_at hl 0 rfl) ?_
            refine va_get (D := D) (ci := 6) (v := .ref (a0 0)) (C := RX6) (T := TX6) (N := 6) hx hb hts hinX6 hown hK hP 0 rfl rfl 0 (by decide) (hts (.fieldLink RX6 22 "KneeBench$SeasonText" "tokens" "LKneeBench$Tokens;") (List.mem_of_getElem? (i := 3) rfl)) (fun _ h9 => h9) rfl dX6_isRead_44 ?_
            refine va_getN (D := D) (ci := 8) (v := .int (gi q23.2.2.2.1 8)) (C := RX8) (T := TX8) (N := 14) hx hb hts hinX8 hown hK hP 2 rfl rfl 8 (by decide) (NW.fld hN 44 rfl _) (fun _ h9 => h9) rfl dX6_isRead_47 ?_
            refine lv_bipush (v := 28) hx hb dX6_isRead_50 (by decide) ?_
            refine lv_icmp_ne (tgt := 62) hx hb dX6_isRead_52 (by decide) (fun c19 => ?_) (fun c19 => ?_)
            · replace h := (if_neg c19).symm.trans h
              refine lv_aload_n hx hb dX6_isRead_62 rfl (lv_at hl 0 rfl) ?_
              obtain ⟨r20, hr20, h⟩ := bd_elim h
              refine ca_z (w' := [WX6 cy h0 a0 r20.2.1, WX8 cy (a0 0) a1 r20.2.2.1, WX5 cy (a0 1) a2 r20.2.2.2, WX0 cy (a0 2) a3 s3]) (rn_V (As := []) (rest := []) ⟨hx, hb, hml, hown, hts⟩ (kX6_readStep l D cy h0 a0 a1 a2 q23.2.2.1 q23.2.2.2.1 q23.2.2.2.2 r20 hr20 H.size) (cwV 0 hts gX6_isRead_X6_readStep rfl rfl rfl (by decide +kernel) ⟨Nat.le_of_ble_eq_true rfl, Nat.le_of_ble_eq_true rfl⟩) hK hN hP hD [0, 1, 2] rfl rfl (ci := 6) (q0 := 0) rfl rfl rfl rfl hl.1 rfl (Nat.le_of_ble_eq_true rfl) dX6_isRead_63 ⟨Nat.le_refl 0, Nat.le_refl 0⟩) hP hD hS hA [0, 1, 2] ⟨rfl, rfl, rfl, rfl⟩ (fun b21 H locs hP hD hS => ?_)
              refine lv_if_eq (tgt := 87) hx hb dX6_isRead_66 (by decide) (fun c22 => ?_) (fun c22 => ?_)
              · replace h := (if_pos c22).symm.trans h
                exact J87 r20.2.1 r20.2.2.1 r20.2.2.2 H locs ls (lv_sub hl [0, 2] rfl) hP hD hS h
              · replace h := (if_neg c22).symm.trans h
                refine lv_aload_n hx hb dX6_isRead_69 rfl (lv_at hl 0 rfl) ?_
                obtain ⟨r23, hr23, h⟩ := bd_elim h
                refine ca_z (w' := [WX6 cy h0 a0 r20.2.1, WX8 cy (a0 0) a1 r23.2.1, WX5 cy (a0 1) a2 r23.2.2, WX0 cy (a0 2) a3 s3]) (rn_V (As := []) (rest := []) ⟨hx, hb, hml, hown, hts⟩ (kX6_readRest l D cy h0 a0 a1 a2 a3 r20.2.1 r20.2.2.1 r20.2.2.2 s3 r23 hr23 H.size) (cwV 0 hts gX6_isRead_X6_readRest rfl rfl rfl (by decide +kernel) ⟨Nat.le_of_ble_eq_true rfl, Nat.le_of_ble_eq_true rfl⟩) hK hN hP hD [0, 1, 2, 3] rfl rfl (ci := 6) (q0 := 0) rfl rfl rfl rfl hl.1 rfl (Nat.le_of_ble_eq_true rfl) dX6_isRead_70 ⟨Nat.le_refl 0, Nat.le_refl 0⟩) hP hD hS hA [0, 1, 2, 3] ⟨rfl, rfl, rfl, rfl⟩ (fun b24 H locs hP hD hS => ?_)
                refine lv_if_eq (tgt := 87) hx hb dX6_isRead_73 (by decide) (fun c25 => ?_) (fun c25 => ?_)
                · replace h := (if_pos c25).symm.trans h
                  exact J87 r20.2.1 r23.2.1 r23.2.2 H locs ls (lv_sub hl [0, 2] rfl) hP hD hS h
                · replace h := (if_neg c25).symm.trans h
                  refine lv_aload_n hx hb dX6_isRead_76 rfl (lv_at hl 0 rfl) ?_
                  obtain ⟨r26, hr26, h⟩ := bd_elim h
                  refine ca_z (w' := [WX6 cy h0 a0 r20.2.1, WX8 cy (a0 0) a1 r23.2.1, WX5 cy (a0 1) a2 r26.2, WX0 cy (a0 2) a3 s3]) (rn_V (As := []) (rest := []) ⟨hx, hb, hml, hown, hts⟩ (kX6_keepRest l D cy h0 a0 a1 a2 r20.2.1 r23.2.1 r23.2.2 r26 hr26 H.size) (cwV 0 hts gX6_isRead_X6_keepRest rfl rfl rfl (by decide +kernel) ⟨Nat.le_of_ble_eq_true rfl, Nat.le_of_ble_eq_true rfl⟩) hK hN hP hD [0, 1, 2] rfl rfl (ci := 6) (q0 := 0) rfl rfl rfl rfl hl.1 rfl (Nat.le_of_ble_eq_true rfl) dX6_isRead_77 ⟨Nat.le_refl 0, Nat.le_refl 0⟩) hP hD hS hA [0, 1, 2] ⟨rfl, rfl, rfl, rfl⟩ (fun b27 H locs hP hD hS => ?_)
                  refine lv_if_eq (tgt := 87) hx hb dX6_isRead_80 (by decide) (fun c28 => ?_) (fun c28 => ?_)
                  · replace h := (if_pos c28).symm.trans h
                    exact J87 r20.2.1 r23.2.1 r26.2 H locs ls (lv_sub hl [0, 2] rfl) hP hD hS h
                  · replace h := (if_neg c28).symm.trans h
                    refine lv_iconst (v := 1) hx hb dX6_isRead_83 (by decide) ?_
                    refine lv_goto (tgt := 88) hx hb dX6_isRead_84 (by decide) ?_
                    exact J88 (1 : Int32) r20.2.1 r23.2.1 r26.2 H locs ls (lv_sub hl [0, 2] rfl) hP hD hS h
            · replace h := (if_pos c19).symm.trans h
              refine lv_aload_n hx hb dX6_isRead_55 rfl (lv_at hl 0 rfl) ?_
              obtain ⟨r29, hr29, h⟩ := bd_elim h
              refine ca_z (w' := [WX6 cy h0 a0 r29.2.1, WX8 cy (a0 0) a1 r29.2.2.1, WX5 cy (a0 1) a2 r29.2.2.2, WX0 cy (a0 2) a3 s3]) (rn_V (As := []) (rest := []) ⟨hx, hb, hml, hown, hts⟩ (kX6_readEnd l D cy h0 a0 a1 a2 q23.2.2.1 q23.2.2.2.1 q23.2.2.2.2 r29 hr29 H.size) (cwV 0 hts gX6_isRead_X6_readEnd rfl rfl rfl (by decide +kernel) ⟨Nat.le_of_ble_eq_true rfl, Nat.le_of_ble_eq_true rfl⟩) hK hN hP hD [0, 1, 2] rfl rfl (ci := 6) (q0 := 0) rfl rfl rfl rfl hl.1 rfl (Nat.le_of_ble_eq_true rfl) dX6_isRead_56 ⟨Nat.le_refl 0, Nat.le_refl 0⟩) hP hD hS hA [0, 1, 2] ⟨rfl, rfl, rfl, rfl⟩ (fun b30 H locs hP hD hS => ?_)
              refine lv_goto (tgt := 88) hx hb dX6_isRead_59 (by decide) ?_
              exact J88 r29.1 r29.2.1 r29.2.2.1 r29.2.2.2 H locs ls (lv_sub hl [0, 2] rfl) hP hD hS h
  obtain ⟨o23, ho23, h⟩ := bd_elim h
  obtain ⟨n23, hn23⟩ := loopF_some ho23
  refine L23 n23 _ o23 hn23 H locs ls (lv_sub hl [2, 1, 0] rfl) hP hD hS (fun H locs ls hl hP hD hS => ?_)
  exact J117 o23.1 o23.2.1 o23.2.2.1 o23.2.2.2 H locs ls (lv_sub hl [0, 1] rfl) hP hD hS h
theorem gd_X7_cost : wsX7_cost.all goodWord = true := by decide +kernel
set_option maxRecDepth 20000 in
theorem ggX7_cost_X0_dislike : GoodIn wsX7_cost wsX0_dislike := goodIn_by gd_X7_cost (List.forall_mem_cons.mpr ⟨List.mem_cons_of_mem _ (List.mem_append_left _ (List.mem_append_left _ (List.mem_of_getElem? (i := 5) rfl))), List.forall_mem_append.mpr ⟨List.forall_mem_cons.mpr ⟨List.mem_cons_of_mem _ (List.mem_append_left _ (List.mem_append_left _ (List.mem_of_getElem? (i := 6) rfl))), nowords_in⟩, (fun _ h => List.mem_cons_of_mem _ (List.mem_append_right _ (h)))⟩⟩)
set_option maxRecDepth 20000 in
theorem gX7_cost_X0_dislike : GoodIn wsX7_cost (wsV RX7 39 RX0 yX0_dislike wsX0_dislike) := goodIn_app (goodIn_by gd_X7_cost (List.forall_mem_cons.mpr ⟨List.mem_cons_of_mem _ (List.mem_append_left _ (List.mem_append_left _ (List.mem_of_getElem? (i := 1) rfl))), List.forall_mem_cons.mpr ⟨List.mem_cons_of_mem _ (List.mem_append_left _ (List.mem_append_left _ (List.mem_of_getElem? (i := 2) rfl))), List.forall_mem_cons.mpr ⟨List.mem_cons_of_mem _ (List.mem_append_left _ (List.mem_append_left _ (List.mem_of_getElem? (i := 3) rfl))), List.forall_mem_cons.mpr ⟨List.mem_cons_of_mem _ (List.mem_append_left _ (List.mem_append_left _ (List.mem_of_getElem? (i := 4) rfl))), nowords_in⟩⟩⟩⟩)) ggX7_cost_X0_dislike
theorem dX7_cost_0 : decode cX7_cost 0 = .ok (.iload 4, 2) := by decide +kernel
theorem dX7_cost_2 : decode cX7_cost 2 = .ok (.iconst (-1), 1) := by decide +kernel
theorem dX7_cost_3 : decode cX7_cost 3 = .ok (.if_icmp .ne 5, 3) := by decide +kernel
theorem dX7_cost_6 : decode cX7_cost 6 = .ok (.iconst 0, 1) := by decide +kernel
theorem dX7_cost_7 : decode cX7_cost 7 = .ok (.ireturn, 1) := by decide +kernel
theorem dX7_cost_8 : decode cX7_cost 8 = .ok (.iload_n 2, 1) := by decide +kernel
theorem dX7_cost_9 : decode cX7_cost 9 = .ok (.iconst (-1), 1) := by decide +kernel
theorem dX7_cost_10 : decode cX7_cost 10 = .ok (.if_icmp .ne 7, 3) := by decide +kernel
theorem dX7_cost_13 : decode cX7_cost 13 = .ok (.iconst 0, 1) := by decide +kernel
theorem dX7_cost_14 : decode cX7_cost 14 = .ok (.goto 10, 3) := by decide +kernel
theorem dX7_cost_17 : decode cX7_cost 17 = .ok (.aload_n 1, 1) := by decide +kernel
theorem dX7_cost_18 : decode cX7_cost 18 = .ok (.iload_n 2, 1) := by decide +kernel
theorem dX7_cost_19 : decode cX7_cost 19 = .ok (.iload 4, 2) := by decide +kernel
theorem dX7_cost_21 : decode cX7_cost 21 = .ok (.invokevirtual 39, 3) := by decide +kernel
theorem dX7_cost_24 : decode cX7_cost 24 = .ok (.istore 5, 2) := by decide +kernel
theorem dX7_cost_26 : decode cX7_cost 26 = .ok (.iload 5, 2) := by decide +kernel
theorem dX7_cost_28 : decode cX7_cost 28 = .ok (.aload_n 0, 1) := by decide +kernel
theorem dX7_cost_29 : decode cX7_cost 29 = .ok (.getfield 9, 3) := by decide +kernel
theorem dX7_cost_32 : decode cX7_cost 32 = .ok (.iload_n 3, 1) := by decide +kernel
theorem dX7_cost_33 : decode cX7_cost 33 = .ok (.bipush 8, 2) := by decide +kernel
theorem dX7_cost_35 : decode cX7_cost 35 = .ok (.imul, 1) := by decide +kernel
theorem dX7_cost_36 : decode cX7_cost 36 = .ok (.iload 4, 2) := by decide +kernel
theorem dX7_cost_38 : decode cX7_cost 38 = .ok (.iadd, 1) := by decide +kernel
theorem dX7_cost_39 : decode cX7_cost 39 = .ok (.iaload, 1) := by decide +kernel
theorem dX7_cost_40 : decode cX7_cost 40 = .ok (.iadd, 1) := by decide +kernel
theorem dX7_cost_41 : decode cX7_cost 41 = .ok (.ireturn, 1) := by decide +kernel
abbrev rmX7_cost : Room := { frames := 1, cells := 0, slots := 0, locals := 22 }
set_option maxHeartbeats 4000000 in
set_option maxRecDepth 100000 in
theorem kX7_cost (l : Launch) (D : va_G) (cy : Nat → ClassId) (h0 : Nat) (h_p1 : Nat) (a0 : Nat → Nat) (a1 : Nat → Nat) (s0 : Rc) (s1 : Rc) (p2 : Int32) (p3 : Int32) (p4 : Int32) (res : Int32) (h : fX7_cost p2 p3 p4 s0 s1 = some res) : CI l D cy yX7_cost wsX7_cost rmX7_cost [.ref h0, .ref h_p1, .int p2, .int p3, .int p4] (flat [WX7 cy h0 a0 s0, WX0 cy h_p1 a1 s1]) (flat [WX7 cy h0 a0 s0, WX0 cy h_p1 a1 s1]) res := by
  refine CI.of (cc := cX7_cost) (maxL := 6) (by decide) rfl (Nat.le_of_ble_eq_true rfl) ?_
  intro p e s m args below meth c A QQ ls E hr
  obtain ⟨hx, hb, hml, hown, hts, hK, hN, hP, hD, hA, hl⟩ := E
  have hret : ∀ (pc : Nat) (H : Heap) (locs : List Loc) (ls : Array Slot) (u : Int32), u = res → va_P D vwCl (flat [WX7 cy h0 a0 s0, WX0 cy h_p1 a1 s1]) H → va_D A (flat [WX7 cy h0 a0 s0, WX0 cy h_p1 a1 s1]) → va_S A s.heap H locs → decode cX7_cost pc = .ok (.ireturn, 1) → W p l e rmX7_cost s m args below meth c H locs 0 0 QQ (F0 m pc ls [.int u]) := by
    intro pc H locs ls u hu hP hD hS hd; subst hu; exact hr pc H locs ls _ rfl hP hD hS hd
  clear hr
  have hl : lv_has ls 6 [(0, .ref h0), (1, .ref h_p1), (2, .int p2), (3, .int p3), (4, .int p4)] := hl
  have hinX7 : ∀ w ∈ wsX70, w ∈ wsX7_cost := fun _ h => List.mem_cons_of_mem _ (List.mem_append_left _ (List.mem_append_right _ h))
  unfold fX7_cost at h
  suffices key : ∀ (H : Heap) (locs : List Loc), va_P D vwCl (flat [WX7 cy h0 a0 s0, WX0 cy h_p1 a1 s1]) H → va_S A s.heap H locs → W p l e rmX7_cost s m args below meth c H locs 0 0 QQ (F0 m 0 ls []) from key _ _ hP va_S.rf
  clear hP
  intro H locs hP hS
  have J24 : ∀ (z24_0 : Int32) (H : Heap) (locs : List Loc) (ls : Array Slot), lv_has ls 6 [(0, .ref h0), (3, .int p3), (4, .int p4)] → va_P D vwCl (flat [WX7 cy h0 a0 s0, WX0 cy h_p1 a1 s1]) H → va_D A (flat [WX7 cy h0 a0 s0, WX0 cy h_p1 a1 s1]) → va_S A s.heap H locs → fX7_cost_J24 p3 p4 s0 z24_0 = some res → W p l e rmX7_cost s m args below meth c H locs 0 0 QQ (F0 m 24 ls [.int z24_0]) := by
    intro z24_0 H locs ls hl hP hD hS h
    unfold fX7_cost_J24 at h
    refine lv_istore (lv' := [(5, .int z24_0), (0, .ref h0), (3, .int p3), (4, .int p4)]) hx hb dX7_cost_24 hl (by decide) rfl (fun ls hl => ?_)
    refine lv_iload hx hb dX7_cost_26 (lv_at hl 0 rfl) ?_
    refine lv_aload_n hx hb dX7_cost_28 rfl (lv_at hl 1 rfl) ?_
    refine va_get (D := D) (ci := 7) (v := .ref (a0 0)) (C := RX7) (T := TX7) (N := 3) hx hb hts hinX7 hown hK hP 0 rfl rfl 0 (by decide) (hts (.fieldLink RX7 9 "KneeBench$Seats" "least" "[I") (List.mem_of_getElem? (i := 1) rfl)) (fun _ h9 => h9) rfl dX7_cost_29 ?_
    refine lv_iload_n hx hb dX7_cost_32 rfl (lv_at hl 2 rfl) ?_
    refine lv_bipush (v := 8) hx hb dX7_cost_33 (by decide) ?_
    refine lv_imul hx hb dX7_cost_35 ?_
    refine lv_iload hx hb dX7_cost_36 (lv_at hl 3 rfl) ?_
    refine lv_iadd hx hb dX7_cost_38 ?_
    obtain ⟨g1, h⟩ := gd_elim h
    refine va_iald hx hb hK hP 1 1 rfl rfl (inb_in g1) dX7_cost_39 ?_
    refine lv_iadd hx hb dX7_cost_40 ?_
    exact hret 41 H locs ls (z24_0 + (ga s0 0 ((p3 * (8 : Int32)) + p4).toNatClampNeg)) (Option.some.inj h) hP hD hS dX7_cost_41
  refine lv_iload hx hb dX7_cost_0 (lv_at hl 4 rfl) ?_
  refine lv_iconst (v := -1) hx hb dX7_cost_2 (by decide) ?_
  refine lv_icmp_ne (tgt := 8) hx hb dX7_cost_3 (by decide) (fun c2 => ?_) (fun c2 => ?_)
  · replace h := (if_neg c2).symm.trans h
    refine lv_iload_n hx hb dX7_cost_8 rfl (lv_at hl 2 rfl) ?_
    refine lv_iconst (v := -1) hx hb dX7_cost_9 (by decide) ?_
    refine lv_icmp_ne (tgt := 17) hx hb dX7_cost_10 (by decide) (fun c3 => ?_) (fun c3 => ?_)
    · replace h := (if_neg c3).symm.trans h
      refine lv_aload_n hx hb dX7_cost_17 rfl (lv_at hl 1 rfl) ?_
      refine lv_iload_n hx hb dX7_cost_18 rfl (lv_at hl 2 rfl) ?_
      refine lv_iload hx hb dX7_cost_19 (lv_at hl 4 rfl) ?_
      obtain ⟨r4, hr4, h⟩ := bd_elim h
      refine ca_i (w' := [WX7 cy h0 a0 s0, WX0 cy h_p1 a1 s1]) (rn_V (As := [.int p2, .int p4]) (rest := []) ⟨hx, hb, hml, hown, hts⟩ (kX0_dislike l D cy h_p1 a1 s1 p2 p4 r4 hr4 H.size) (cwV 2 hts gX7_cost_X0_dislike rfl rfl rfl (by decide +kernel) ⟨Nat.le_of_ble_eq_true rfl, Nat.le_of_ble_eq_true rfl⟩) hK hN hP hD [1] rfl rfl (ci := 0) (q0 := 3) rfl rfl rfl rfl hl.1 rfl (Nat.le_of_ble_eq_true rfl) dX7_cost_21 ⟨Nat.le_refl 0, Nat.le_refl 0⟩) hP hD hS hA [1] ⟨rfl, rfl, rfl, rfl⟩ (fun H locs hP hD hS => ?_)
      exact J24 r4 H locs ls (lv_sub hl [0, 3, 4] rfl) hP hD hS h
    · replace h := (if_pos c3).symm.trans h
      refine lv_iconst (v := 0) hx hb dX7_cost_13 (by decide) ?_
      refine lv_goto (tgt := 24) hx hb dX7_cost_14 (by decide) ?_
      exact J24 (0 : Int32) H locs ls (lv_sub hl [0, 3, 4] rfl) hP hD hS h
  · replace h := (if_pos c2).symm.trans h
    refine lv_iconst (v := 0) hx hb dX7_cost_6 (by decide) ?_
    exact hret 7 H locs ls (0 : Int32) (Option.some.inj h) hP hD hS dX7_cost_7
theorem gd_X7_cheapest : wsX7_cheapest.all goodWord = true := by decide +kernel
set_option maxRecDepth 20000 in
theorem ggX7_cheapest_X7_cost : GoodIn wsX7_cheapest wsX7_cost := goodIn_by gd_X7_cheapest (List.forall_mem_cons.mpr ⟨List.mem_cons_of_mem _ (List.mem_append_left _ (List.mem_append_left _ (List.mem_of_getElem? (i := 4) rfl))), List.forall_mem_append.mpr ⟨List.forall_mem_append.mpr ⟨List.forall_mem_cons.mpr ⟨List.mem_cons_of_mem _ (List.mem_append_left _ (List.mem_append_left _ (List.mem_of_getElem? (i := 5) rfl))), List.forall_mem_cons.mpr ⟨List.mem_cons_of_mem _ (List.mem_append_left _ (List.mem_append_left _ (List.mem_of_getElem? (i := 6) rfl))), List.forall_mem_cons.mpr ⟨List.mem_cons_of_mem _ (List.mem_append_left _ (List.mem_append_left _ (List.mem_of_getElem? (i := 7) rfl))), List.forall_mem_cons.mpr ⟨List.mem_cons_of_mem _ (List.mem_append_left _ (List.mem_append_left _ (List.mem_of_getElem? (i := 8) rfl))), List.forall_mem_cons.mpr ⟨List.mem_cons_of_mem _ (List.mem_append_left _ (List.mem_append_left _ (List.mem_of_getElem? (i := 9) rfl))), List.forall_mem_cons.mpr ⟨List.mem_cons_of_mem _ (List.mem_append_left _ (List.mem_append_left _ (List.mem_of_getElem? (i := 10) rfl))), List.forall_mem_cons.mpr ⟨List.mem_cons_of_mem _ (List.mem_append_left _ (List.mem_append_left _ (List.mem_of_getElem? (i := 11) rfl))), nowords_in⟩⟩⟩⟩⟩⟩⟩, (fun _ h => List.mem_cons_of_mem _ (List.mem_append_right _ (h)))⟩, (fun _ h => List.mem_cons_of_mem _ (List.mem_append_left _ (List.mem_append_right _ (h))))⟩⟩)
set_option maxRecDepth 20000 in
theorem gX7_cheapest_X7_cost : GoodIn wsX7_cheapest (wsV RX7 31 RX7 yX7_cost wsX7_cost) := goodIn_app (goodIn_by gd_X7_cheapest (List.forall_mem_cons.mpr ⟨List.mem_cons_of_mem _ (List.mem_append_left _ (List.mem_append_left _ (List.mem_of_getElem? (i := 0) rfl))), List.forall_mem_cons.mpr ⟨List.mem_cons_of_mem _ (List.mem_append_left _ (List.mem_append_left _ (List.mem_of_getElem? (i := 1) rfl))), List.forall_mem_cons.mpr ⟨List.mem_cons_of_mem _ (List.mem_append_left _ (List.mem_append_left _ (List.mem_of_getElem? (i := 2) rfl))), List.forall_mem_cons.mpr ⟨List.mem_cons_of_mem _ (List.mem_append_left _ (List.mem_append_left _ (List.mem_of_getElem? (i := 3) rfl))), nowords_in⟩⟩⟩⟩)) ggX7_cheapest_X7_cost
theorem dX7_cheapest_0 : decode cX7_cheapest 0 = .ok (.iconst (-1), 1) := by decide +kernel
theorem dX7_cheapest_1 : decode cX7_cheapest 1 = .ok (.istore 4, 2) := by decide +kernel
theorem dX7_cheapest_3 : decode cX7_cheapest 3 = .ok (.iconst 0, 1) := by decide +kernel
theorem dX7_cheapest_4 : decode cX7_cheapest 4 = .ok (.istore 5, 2) := by decide +kernel
theorem dX7_cheapest_6 : decode cX7_cheapest 6 = .ok (.iload 5, 2) := by decide +kernel
theorem dX7_cheapest_8 : decode cX7_cheapest 8 = .ok (.aload_n 1, 1) := by decide +kernel
theorem dX7_cheapest_9 : decode cX7_cheapest 9 = .ok (.getfield 22, 3) := by decide +kernel
theorem dX7_cheapest_12 : decode cX7_cheapest 12 = .ok (.if_icmp .ge 49, 3) := by decide +kernel
theorem dX7_cheapest_15 : decode cX7_cheapest 15 = .ok (.iload_n 3, 1) := by decide +kernel
theorem dX7_cheapest_16 : decode cX7_cheapest 16 = .ok (.iload 5, 2) := by decide +kernel
theorem dX7_cheapest_18 : decode cX7_cheapest 18 = .ok (.iushr, 1) := by decide +kernel
theorem dX7_cheapest_19 : decode cX7_cheapest 19 = .ok (.iconst 1, 1) := by decide +kernel
theorem dX7_cheapest_20 : decode cX7_cheapest 20 = .ok (.iand, 1) := by decide +kernel
theorem dX7_cheapest_21 : decode cX7_cheapest 21 = .ok (.ifCond .eq 34, 3) := by decide +kernel
theorem dX7_cheapest_24 : decode cX7_cheapest 24 = .ok (.iload 4, 2) := by decide +kernel
theorem dX7_cheapest_26 : decode cX7_cheapest 26 = .ok (.iconst (-1), 1) := by decide +kernel
theorem dX7_cheapest_27 : decode cX7_cheapest 27 = .ok (.if_icmp .eq 24, 3) := by decide +kernel
theorem dX7_cheapest_30 : decode cX7_cheapest 30 = .ok (.aload_n 0, 1) := by decide +kernel
theorem dX7_cheapest_31 : decode cX7_cheapest 31 = .ok (.aload_n 1, 1) := by decide +kernel
theorem dX7_cheapest_32 : decode cX7_cheapest 32 = .ok (.iload_n 2, 1) := by decide +kernel
theorem dX7_cheapest_33 : decode cX7_cheapest 33 = .ok (.iload_n 3, 1) := by decide +kernel
theorem dX7_cheapest_34 : decode cX7_cheapest 34 = .ok (.iload 5, 2) := by decide +kernel
theorem dX7_cheapest_36 : decode cX7_cheapest 36 = .ok (.invokevirtual 31, 3) := by decide +kernel
theorem dX7_cheapest_39 : decode cX7_cheapest 39 = .ok (.aload_n 0, 1) := by decide +kernel
theorem dX7_cheapest_40 : decode cX7_cheapest 40 = .ok (.aload_n 1, 1) := by decide +kernel
theorem dX7_cheapest_41 : decode cX7_cheapest 41 = .ok (.iload_n 2, 1) := by decide +kernel
theorem dX7_cheapest_42 : decode cX7_cheapest 42 = .ok (.iload_n 3, 1) := by decide +kernel
theorem dX7_cheapest_43 : decode cX7_cheapest 43 = .ok (.iload 4, 2) := by decide +kernel
theorem dX7_cheapest_45 : decode cX7_cheapest 45 = .ok (.invokevirtual 31, 3) := by decide +kernel
theorem dX7_cheapest_48 : decode cX7_cheapest 48 = .ok (.if_icmp .ge 7, 3) := by decide +kernel
theorem dX7_cheapest_51 : decode cX7_cheapest 51 = .ok (.iload 5, 2) := by decide +kernel
theorem dX7_cheapest_53 : decode cX7_cheapest 53 = .ok (.istore 4, 2) := by decide +kernel
theorem dX7_cheapest_55 : decode cX7_cheapest 55 = .ok (.iinc 5 1, 3) := by decide +kernel
theorem dX7_cheapest_58 : decode cX7_cheapest 58 = .ok (.goto (-52), 3) := by decide +kernel
theorem dX7_cheapest_61 : decode cX7_cheapest 61 = .ok (.iload 4, 2) := by decide +kernel
theorem dX7_cheapest_63 : decode cX7_cheapest 63 = .ok (.ireturn, 1) := by decide +kernel
abbrev rmX7_cheapest : Room := { frames := 2, cells := 0, slots := 0, locals := 47 }
set_option maxHeartbeats 4000000 in
set_option maxRecDepth 100000 in
theorem kX7_cheapest (l : Launch) (D : va_G) (cy : Nat → ClassId) (h0 : Nat) (h_p1 : Nat) (a0 : Nat → Nat) (a1 : Nat → Nat) (s0 : Rc) (s1 : Rc) (p2 : Int32) (p3 : Int32) (res : Int32) (h : fX7_cheapest p2 p3 s0 s1 = some res) : CI l D cy yX7_cheapest wsX7_cheapest rmX7_cheapest [.ref h0, .ref h_p1, .int p2, .int p3] (flat [WX7 cy h0 a0 s0, WX0 cy h_p1 a1 s1]) (flat [WX7 cy h0 a0 s0, WX0 cy h_p1 a1 s1]) res := by
  refine CI.of (cc := cX7_cheapest) (maxL := 6) (by decide) rfl (Nat.le_of_ble_eq_true rfl) ?_
  intro p e s m args below meth c A QQ ls E hr
  obtain ⟨hx, hb, hml, hown, hts, hK, hN, hP, hD, hA, hl⟩ := E
  have hret : ∀ (pc : Nat) (H : Heap) (locs : List Loc) (ls : Array Slot) (u : Int32), u = res → va_P D vwCl (flat [WX7 cy h0 a0 s0, WX0 cy h_p1 a1 s1]) H → va_D A (flat [WX7 cy h0 a0 s0, WX0 cy h_p1 a1 s1]) → va_S A s.heap H locs → decode cX7_cheapest pc = .ok (.ireturn, 1) → W p l e rmX7_cheapest s m args below meth c H locs 0 0 QQ (F0 m pc ls [.int u]) := by
    intro pc H locs ls u hu hP hD hS hd; subst hu; exact hr pc H locs ls _ rfl hP hD hS hd
  clear hr
  have hl : lv_has ls 6 [(0, .ref h0), (1, .ref h_p1), (2, .int p2), (3, .int p3)] := hl
  have hinX0 : ∀ w ∈ wsX00, w ∈ wsX7_cheapest := fun _ h => List.mem_cons_of_mem _ (List.mem_append_left _ (List.mem_append_right _ h))
  unfold fX7_cheapest at h
  suffices key : ∀ (H : Heap) (locs : List Loc), va_P D vwCl (flat [WX7 cy h0 a0 s0, WX0 cy h_p1 a1 s1]) H → va_S A s.heap H locs → W p l e rmX7_cheapest s m args below meth c H locs 0 0 QQ (F0 m 0 ls []) from key _ _ hP va_S.rf
  clear hP
  intro H locs hP hS
  refine lv_iconst (v := -1) hx hb dX7_cheapest_0 (by decide) ?_
  refine lv_istore (lv' := [(4, .int (-1 : Int32)), (0, .ref h0), (1, .ref h_p1), (2, .int p2), (3, .int p3)]) hx hb dX7_cheapest_1 hl (by decide) rfl (fun ls hl => ?_)
  refine lv_iconst (v := 0) hx hb dX7_cheapest_3 (by decide) ?_
  refine lv_istore (lv' := [(5, .int (0 : Int32)), (4, .int (-1 : Int32)), (0, .ref h0), (1, .ref h_p1), (2, .int p2), (3, .int p3)]) hx hb dX7_cheapest_4 hl (by decide) rfl (fun ls hl => ?_)
  have L6 : ∀ (n : Nat) (q6 : Int32 × Int32) (o : Int32), loopO (fX7_cheapest_L6 p2 p3 s0 s1) n q6 = some o → ∀ (H : Heap) (locs : List Loc) (ls : Array Slot), lv_has ls 6 [(0, .ref h0), (1, .ref h_p1), (2, .int p2), (3, .int p3), (4, .int q6.1), (5, .int q6.2)] → va_P D vwCl (flat [WX7 cy h0 a0 s0, WX0 cy h_p1 a1 s1]) H → va_D A (flat [WX7 cy h0 a0 s0, WX0 cy h_p1 a1 s1]) → va_S A s.heap H locs → ∀ (kk61 : ∀ (H : Heap) (locs : List Loc) (ls : Array Slot), lv_has ls 6 [(4, .int o)] → va_P D vwCl (flat [WX7 cy h0 a0 s0, WX0 cy h_p1 a1 s1]) H → va_D A (flat [WX7 cy h0 a0 s0, WX0 cy h_p1 a1 s1]) → va_S A s.heap H locs → W p l e rmX7_cheapest s m args below meth c H locs 0 0 QQ (F0 m 61 ls [])), W p l e rmX7_cheapest s m args below meth c H locs 0 0 QQ (F0 m 6 ls []) := by
    intro n
    induction n with
    | zero => intro q6 o h; exact absurd h (by rw [loopO_zero]; intro z; cases z)
    | succ n ih =>
      intro q6 o h H locs ls hl hP hD hS kk61
      obtain ⟨w, h, hgo, hst⟩ := loopO_elim h
      unfold fX7_cheapest_L6 at h
      refine lv_iload hx hb dX7_cheapest_6 (lv_at hl 5 rfl) ?_
      refine lv_aload_n hx hb dX7_cheapest_8 rfl (lv_at hl 1 rfl) ?_
      refine va_getN (D := D) (ci := 0) (v := .int (gi s1 8)) (C := RX0) (T := TX0) (N := 14) hx hb hts hinX0 hown hK hP 3 rfl rfl 8 (by decide) (NW.fld hN 12 rfl _) (fun _ h9 => h9) rfl dX7_cheapest_9 ?_
      refine lv_icmp_ge (tgt := 61) hx hb dX7_cheapest_12 (by decide) (fun c1 => ?_) (fun c1 => ?_)
      · replace h := (if_pos c1).symm.trans h
        have eo := hst _ (Option.some.inj h).symm
        subst eo
        exact kk61 H locs ls (lv_sub hl [4] rfl) hP hD hS
      · replace h := (if_neg c1).symm.trans h
        refine lv_iload_n hx hb dX7_cheapest_15 rfl (lv_at hl 3 rfl) ?_
        refine lv_iload hx hb dX7_cheapest_16 (lv_at hl 5 rfl) ?_
        refine lv_iushr hx hb dX7_cheapest_18 rfl ?_
        refine lv_iconst (v := 1) hx hb dX7_cheapest_19 (by decide) ?_
        refine lv_iand hx hb dX7_cheapest_20 ?_
        refine lv_if_eq (tgt := 55) hx hb dX7_cheapest_21 (by decide) (fun c2 => ?_) (fun c2 => ?_)
        · replace h := (if_pos c2).symm.trans h
          refine lv_iinc (v := (q6.2 + (1 : Int32))) (lv' := [(5, .int (q6.2 + (1 : Int32))), (0, .ref h0), (1, .ref h_p1), (2, .int p2), (3, .int p3), (4, .int q6.1)]) hx hb dX7_cheapest_55 hl (k := 5) rfl rfl (by decide) rfl (fun ls hl => ?_)
          refine lv_goto (tgt := 6) hx hb dX7_cheapest_58 (by decide) ?_
          exact ih _ o (hgo _ (Option.some.inj h).symm) H locs ls (lv_sub hl [1, 2, 3, 4, 5, 0] rfl) hP hD hS kk61
        · replace h := (if_neg c2).symm.trans h
          refine lv_iload hx hb dX7_cheapest_24 (lv_at hl 4 rfl) ?_
          refine lv_iconst (v := -1) hx hb dX7_cheapest_26 (by decide) ?_
          refine lv_icmp_eq (tgt := 51) hx hb dX7_cheapest_27 (by decide) (fun c3 => ?_) (fun c3 => ?_)
          · replace h := (if_pos c3).symm.trans h
            refine lv_iload hx hb dX7_cheapest_51 (lv_at hl 5 rfl) ?_
            refine lv_istore (lv' := [(4, .int q6.2), (0, .ref h0), (1, .ref h_p1), (2, .int p2), (3, .int p3), (5, .int q6.2)]) hx hb dX7_cheapest_53 hl (by decide) rfl (fun ls hl => ?_)
            refine lv_iinc (v := (q6.2 + (1 : Int32))) (lv' := [(5, .int (q6.2 + (1 : Int32))), (4, .int q6.2), (0, .ref h0), (1, .ref h_p1), (2, .int p2), (3, .int p3)]) hx hb dX7_cheapest_55 hl (k := 5) rfl rfl (by decide) rfl (fun ls hl => ?_)
            refine lv_goto (tgt := 6) hx hb dX7_cheapest_58 (by decide) ?_
            exact ih _ o (hgo _ (Option.some.inj h).symm) H locs ls (lv_sub hl [2, 3, 4, 5, 1, 0] rfl) hP hD hS kk61
          · replace h := (if_neg c3).symm.trans h
            refine lv_aload_n hx hb dX7_cheapest_30 rfl (lv_at hl 0 rfl) ?_
            refine lv_aload_n hx hb dX7_cheapest_31 rfl (lv_at hl 1 rfl) ?_
            refine lv_iload_n hx hb dX7_cheapest_32 rfl (lv_at hl 2 rfl) ?_
            refine lv_iload_n hx hb dX7_cheapest_33 rfl (lv_at hl 3 rfl) ?_
            refine lv_iload hx hb dX7_cheapest_34 (lv_at hl 5 rfl) ?_
            obtain ⟨r4, hr4, h⟩ := bd_elim h
            refine ca_i (w' := [WX7 cy h0 a0 s0, WX0 cy h_p1 a1 s1]) (rn_V (As := [.ref h_p1, .int p2, .int p3, .int q6.2]) (rest := []) ⟨hx, hb, hml, hown, hts⟩ (kX7_cost l D cy h0 h_p1 a0 a1 s0 s1 p2 p3 q6.2 r4 hr4 H.size) (cwV 4 hts gX7_cheapest_X7_cost rfl rfl rfl (by decide +kernel) ⟨Nat.le_of_ble_eq_true rfl, Nat.le_of_ble_eq_true rfl⟩) hK hN hP hD [0, 1] rfl rfl (ci := 7) (q0 := 0) rfl rfl rfl rfl hl.1 rfl (Nat.le_of_ble_eq_true rfl) dX7_cheapest_36 ⟨Nat.le_refl 0, Nat.le_refl 0⟩) hP hD hS hA [0, 1] ⟨rfl, rfl, rfl, rfl⟩ (fun H locs hP hD hS => ?_)
            refine lv_aload_n hx hb dX7_cheapest_39 rfl (lv_at hl 0 rfl) ?_
            refine lv_aload_n hx hb dX7_cheapest_40 rfl (lv_at hl 1 rfl) ?_
            refine lv_iload_n hx hb dX7_cheapest_41 rfl (lv_at hl 2 rfl) ?_
            refine lv_iload_n hx hb dX7_cheapest_42 rfl (lv_at hl 3 rfl) ?_
            refine lv_iload hx hb dX7_cheapest_43 (lv_at hl 4 rfl) ?_
            obtain ⟨r5, hr5, h⟩ := bd_elim h
            refine ca_i (w' := [WX7 cy h0 a0 s0, WX0 cy h_p1 a1 s1]) (rn_V (As := [.ref h_p1, .int p2, .int p3, .int q6.1]) (rest := [.int r4]) ⟨hx, hb, hml, hown, hts⟩ (kX7_cost l D cy h0 h_p1 a0 a1 s0 s1 p2 p3 q6.1 r5 hr5 H.size) (cwV 4 hts gX7_cheapest_X7_cost rfl rfl rfl (by decide +kernel) ⟨Nat.le_of_ble_eq_true rfl, Nat.le_of_ble_eq_true rfl⟩) hK hN hP hD [0, 1] rfl rfl (ci := 7) (q0 := 0) rfl rfl rfl rfl hl.1 rfl (Nat.le_of_ble_eq_true rfl) dX7_cheapest_45 ⟨Nat.le_refl 0, Nat.le_refl 0⟩) hP hD hS hA [0, 1] ⟨rfl, rfl, rfl, rfl⟩ (fun H locs hP hD hS => ?_)
            refine lv_icmp_ge (tgt := 55) hx hb dX7_cheapest_48 (by decide) (fun c6 => ?_) (fun c6 => ?_)
            · replace h := (if_pos c6).symm.trans h
              refine lv_iinc (v := (q6.2 + (1 : Int32))) (lv' := [(5, .int (q6.2 + (1 : Int32))), (0, .ref h0), (1, .ref h_p1), (2, .int p2), (3, .int p3), (4, .int q6.1)]) hx hb dX7_cheapest_55 hl (k := 5) rfl rfl (by decide) rfl (fun ls hl => ?_)
              refine lv_goto (tgt := 6) hx hb dX7_cheapest_58 (by decide) ?_
              exact ih _ o (hgo _ (Option.some.inj h).symm) H locs ls (lv_sub hl [1, 2, 3, 4, 5, 0] rfl) hP hD hS kk61
            · replace h := (if_neg c6).symm.trans h
              refine lv_iload hx hb dX7_cheapest_51 (lv_at hl 5 rfl) ?_
              refine lv_istore (lv' := [(4, .int q6.2), (0, .ref h0), (1, .ref h_p1), (2, .int p2), (3, .int p3), (5, .int q6.2)]) hx hb dX7_cheapest_53 hl (by decide) rfl (fun ls hl => ?_)
              refine lv_iinc (v := (q6.2 + (1 : Int32))) (lv' := [(5, .int (q6.2 + (1 : Int32))), (4, .int q6.2), (0, .ref h0), (1, .ref h_p1), (2, .int p2), (3, .int p3)]) hx hb dX7_cheapest_55 hl (k := 5) rfl rfl (by decide) rfl (fun ls hl => ?_)
              refine lv_goto (tgt := 6) hx hb dX7_cheapest_58 (by decide) ?_
              exact ih _ o (hgo _ (Option.some.inj h).symm) H locs ls (lv_sub hl [2, 3, 4, 5, 1, 0] rfl) hP hD hS kk61
  obtain ⟨o6, ho6, h⟩ := bd_elim h
  obtain ⟨n6, hn6⟩ := loopF_some ho6
  refine L6 n6 _ o6 hn6 H locs ls (lv_sub hl [2, 3, 4, 5, 1, 0] rfl) hP hD hS (fun H locs ls hl hP hD hS => ?_)
  refine lv_iload hx hb dX7_cheapest_61 (lv_at hl 0 rfl) ?_
  exact hret 63 H locs ls o6 (Option.some.inj h) hP hD hS dX7_cheapest_63
theorem gd_X7_sitDown : wsX7_sitDown.all goodWord = true := by decide +kernel
set_option maxRecDepth 20000 in
theorem ggX7_sitDown_X7_cheapest : GoodIn wsX7_sitDown wsX7_cheapest := goodIn_by gd_X7_sitDown (List.forall_mem_cons.mpr ⟨List.mem_cons_of_mem _ (List.mem_append_left _ (List.mem_append_left _ (List.mem_of_getElem? (i := 6) rfl))), List.forall_mem_append.mpr ⟨List.forall_mem_append.mpr ⟨List.forall_mem_cons.mpr ⟨List.mem_cons_of_mem _ (List.mem_append_left _ (List.mem_append_left _ (List.mem_of_getElem? (i := 7) rfl))), List.forall_mem_cons.mpr ⟨List.mem_cons_of_mem _ (List.mem_append_left _ (List.mem_append_left _ (List.mem_of_getElem? (i := 8) rfl))), List.forall_mem_cons.mpr ⟨List.mem_cons_of_mem _ (List.mem_append_left _ (List.mem_append_left _ (List.mem_of_getElem? (i := 9) rfl))), List.forall_mem_cons.mpr ⟨List.mem_cons_of_mem _ (List.mem_append_left _ (List.mem_append_left _ (List.mem_of_getElem? (i := 5) rfl))), List.forall_mem_cons.mpr ⟨List.mem_cons_of_mem _ (List.mem_append_left _ (List.mem_append_left _ (List.mem_of_getElem? (i := 10) rfl))), List.forall_mem_cons.mpr ⟨List.mem_cons_of_mem _ (List.mem_append_left _ (List.mem_append_left _ (List.mem_of_getElem? (i := 11) rfl))), List.forall_mem_cons.mpr ⟨List.mem_cons_of_mem _ (List.mem_append_left _ (List.mem_append_left _ (List.mem_of_getElem? (i := 12) rfl))), List.forall_mem_cons.mpr ⟨List.mem_cons_of_mem _ (List.mem_append_left _ (List.mem_append_left _ (List.mem_of_getElem? (i := 13) rfl))), List.forall_mem_cons.mpr ⟨List.mem_cons_of_mem _ (List.mem_append_left _ (List.mem_append_left _ (List.mem_of_getElem? (i := 14) rfl))), List.forall_mem_cons.mpr ⟨List.mem_cons_of_mem _ (List.mem_append_left _ (List.mem_append_left _ (List.mem_of_getElem? (i := 15) rfl))), List.forall_mem_cons.mpr ⟨List.mem_cons_of_mem _ (List.mem_append_left _ (List.mem_append_left _ (List.mem_of_getElem? (i := 16) rfl))), List.forall_mem_cons.mpr ⟨List.mem_cons_of_mem _ (List.mem_append_left _ (List.mem_append_left _ (List.mem_of_getElem? (i := 17) rfl))), nowords_in⟩⟩⟩⟩⟩⟩⟩⟩⟩⟩⟩⟩, (fun _ h => List.mem_cons_of_mem _ (List.mem_append_right _ (h)))⟩, (fun _ h => List.mem_cons_of_mem _ (List.mem_append_left _ (List.mem_append_right _ (h))))⟩⟩)
set_option maxRecDepth 20000 in
theorem gX7_sitDown_X7_cheapest : GoodIn wsX7_sitDown (wsV RX7 27 RX7 yX7_cheapest wsX7_cheapest) := goodIn_app (goodIn_by gd_X7_sitDown (List.forall_mem_cons.mpr ⟨List.mem_cons_of_mem _ (List.mem_append_left _ (List.mem_append_left _ (List.mem_of_getElem? (i := 2) rfl))), List.forall_mem_cons.mpr ⟨List.mem_cons_of_mem _ (List.mem_append_left _ (List.mem_append_left _ (List.mem_of_getElem? (i := 3) rfl))), List.forall_mem_cons.mpr ⟨List.mem_cons_of_mem _ (List.mem_append_left _ (List.mem_append_left _ (List.mem_of_getElem? (i := 4) rfl))), List.forall_mem_cons.mpr ⟨List.mem_cons_of_mem _ (List.mem_append_left _ (List.mem_append_left _ (List.mem_of_getElem? (i := 5) rfl))), nowords_in⟩⟩⟩⟩)) ggX7_sitDown_X7_cheapest
set_option maxRecDepth 20000 in
theorem ggX7_sitDown_X7_cost : GoodIn wsX7_sitDown wsX7_cost := goodIn_by gd_X7_sitDown (List.forall_mem_cons.mpr ⟨List.mem_cons_of_mem _ (List.mem_append_left _ (List.mem_append_left _ (List.mem_of_getElem? (i := 10) rfl))), List.forall_mem_append.mpr ⟨List.forall_mem_append.mpr ⟨List.forall_mem_cons.mpr ⟨List.mem_cons_of_mem _ (List.mem_append_left _ (List.mem_append_left _ (List.mem_of_getElem? (i := 11) rfl))), List.forall_mem_cons.mpr ⟨List.mem_cons_of_mem _ (List.mem_append_left _ (List.mem_append_left _ (List.mem_of_getElem? (i := 12) rfl))), List.forall_mem_cons.mpr ⟨List.mem_cons_of_mem _ (List.mem_append_left _ (List.mem_append_left _ (List.mem_of_getElem? (i := 13) rfl))), List.forall_mem_cons.mpr ⟨List.mem_cons_of_mem _ (List.mem_append_left _ (List.mem_append_left _ (List.mem_of_getElem? (i := 14) rfl))), List.forall_mem_cons.mpr ⟨List.mem_cons_of_mem _ (List.mem_append_left _ (List.mem_append_left _ (List.mem_of_getElem? (i := 15) rfl))), List.forall_mem_cons.mpr ⟨List.mem_cons_of_mem _ (List.mem_append_left _ (List.mem_append_left _ (List.mem_of_getElem? (i := 16) rfl))), List.forall_mem_cons.mpr ⟨List.mem_cons_of_mem _ (List.mem_append_left _ (List.mem_append_left _ (List.mem_of_getElem? (i := 17) rfl))), nowords_in⟩⟩⟩⟩⟩⟩⟩, (fun _ h => List.mem_cons_of_mem _ (List.mem_append_left _ (List.mem_append_right _ (h))))⟩, (fun _ h => List.mem_cons_of_mem _ (List.mem_append_right _ (h)))⟩⟩)
set_option maxRecDepth 20000 in
theorem gX7_sitDown_X7_cost : GoodIn wsX7_sitDown (wsV RX7 31 RX7 yX7_cost wsX7_cost) := goodIn_app (goodIn_by gd_X7_sitDown (List.forall_mem_cons.mpr ⟨List.mem_cons_of_mem _ (List.mem_append_left _ (List.mem_append_left _ (List.mem_of_getElem? (i := 7) rfl))), List.forall_mem_cons.mpr ⟨List.mem_cons_of_mem _ (List.mem_append_left _ (List.mem_append_left _ (List.mem_of_getElem? (i := 8) rfl))), List.forall_mem_cons.mpr ⟨List.mem_cons_of_mem _ (List.mem_append_left _ (List.mem_append_left _ (List.mem_of_getElem? (i := 9) rfl))), List.forall_mem_cons.mpr ⟨List.mem_cons_of_mem _ (List.mem_append_left _ (List.mem_append_left _ (List.mem_of_getElem? (i := 5) rfl))), nowords_in⟩⟩⟩⟩)) ggX7_sitDown_X7_cost
theorem dX7_sitDown_0 : decode cX7_sitDown 0 = .ok (.iload_n 2, 1) := by decide +kernel
theorem dX7_sitDown_1 : decode cX7_sitDown 1 = .ok (.istore_n 3, 1) := by decide +kernel
theorem dX7_sitDown_2 : decode cX7_sitDown 2 = .ok (.iconst (-1), 1) := by decide +kernel
theorem dX7_sitDown_3 : decode cX7_sitDown 3 = .ok (.istore 4, 2) := by decide +kernel
theorem dX7_sitDown_5 : decode cX7_sitDown 5 = .ok (.aload_n 0, 1) := by decide +kernel
theorem dX7_sitDown_6 : decode cX7_sitDown 6 = .ok (.aload_n 1, 1) := by decide +kernel
theorem dX7_sitDown_7 : decode cX7_sitDown 7 = .ok (.iconst (-1), 1) := by decide +kernel
theorem dX7_sitDown_8 : decode cX7_sitDown 8 = .ok (.iload_n 2, 1) := by decide +kernel
theorem dX7_sitDown_9 : decode cX7_sitDown 9 = .ok (.aload_n 0, 1) := by decide +kernel
theorem dX7_sitDown_10 : decode cX7_sitDown 10 = .ok (.aload_n 1, 1) := by decide +kernel
theorem dX7_sitDown_11 : decode cX7_sitDown 11 = .ok (.iconst (-1), 1) := by decide +kernel
theorem dX7_sitDown_12 : decode cX7_sitDown 12 = .ok (.iload_n 2, 1) := by decide +kernel
theorem dX7_sitDown_13 : decode cX7_sitDown 13 = .ok (.invokevirtual 27, 3) := by decide +kernel
theorem dX7_sitDown_16 : decode cX7_sitDown 16 = .ok (.invokevirtual 31, 3) := by decide +kernel
theorem dX7_sitDown_19 : decode cX7_sitDown 19 = .ok (.istore 5, 2) := by decide +kernel
theorem dX7_sitDown_21 : decode cX7_sitDown 21 = .ok (.aload_n 0, 1) := by decide +kernel
theorem dX7_sitDown_22 : decode cX7_sitDown 22 = .ok (.iconst 0, 1) := by decide +kernel
theorem dX7_sitDown_23 : decode cX7_sitDown 23 = .ok (.putfield 18, 3) := by decide +kernel
theorem dX7_sitDown_26 : decode cX7_sitDown 26 = .ok (.iconst 0, 1) := by decide +kernel
theorem dX7_sitDown_27 : decode cX7_sitDown 27 = .ok (.istore 6, 2) := by decide +kernel
theorem dX7_sitDown_29 : decode cX7_sitDown 29 = .ok (.iload 6, 2) := by decide +kernel
theorem dX7_sitDown_31 : decode cX7_sitDown 31 = .ok (.aload_n 1, 1) := by decide +kernel
theorem dX7_sitDown_32 : decode cX7_sitDown 32 = .ok (.getfield 22, 3) := by decide +kernel
theorem dX7_sitDown_35 : decode cX7_sitDown 35 = .ok (.if_icmp .ge 55, 3) := by decide +kernel
theorem dX7_sitDown_38 : decode cX7_sitDown 38 = .ok (.aload_n 0, 1) := by decide +kernel
theorem dX7_sitDown_39 : decode cX7_sitDown 39 = .ok (.aload_n 1, 1) := by decide +kernel
theorem dX7_sitDown_40 : decode cX7_sitDown 40 = .ok (.iload 4, 2) := by decide +kernel
theorem dX7_sitDown_42 : decode cX7_sitDown 42 = .ok (.iload_n 3, 1) := by decide +kernel
theorem dX7_sitDown_43 : decode cX7_sitDown 43 = .ok (.invokevirtual 27, 3) := by decide +kernel
theorem dX7_sitDown_46 : decode cX7_sitDown 46 = .ok (.istore 7, 2) := by decide +kernel
theorem dX7_sitDown_48 : decode cX7_sitDown 48 = .ok (.iload 7, 2) := by decide +kernel
theorem dX7_sitDown_50 : decode cX7_sitDown 50 = .ok (.iconst (-1), 1) := by decide +kernel
theorem dX7_sitDown_51 : decode cX7_sitDown 51 = .ok (.if_icmp .eq 33, 3) := by decide +kernel
theorem dX7_sitDown_54 : decode cX7_sitDown 54 = .ok (.aload_n 0, 1) := by decide +kernel
theorem dX7_sitDown_55 : decode cX7_sitDown 55 = .ok (.getfield 15, 3) := by decide +kernel
theorem dX7_sitDown_58 : decode cX7_sitDown 58 = .ok (.iload 6, 2) := by decide +kernel
theorem dX7_sitDown_60 : decode cX7_sitDown 60 = .ok (.iload 7, 2) := by decide +kernel
theorem dX7_sitDown_62 : decode cX7_sitDown 62 = .ok (.iastore, 1) := by decide +kernel
theorem dX7_sitDown_63 : decode cX7_sitDown 63 = .ok (.iload_n 3, 1) := by decide +kernel
theorem dX7_sitDown_64 : decode cX7_sitDown 64 = .ok (.iconst 1, 1) := by decide +kernel
theorem dX7_sitDown_65 : decode cX7_sitDown 65 = .ok (.iload 7, 2) := by decide +kernel
theorem dX7_sitDown_67 : decode cX7_sitDown 67 = .ok (.ishl, 1) := by decide +kernel
theorem dX7_sitDown_68 : decode cX7_sitDown 68 = .ok (.iconst (-1), 1) := by decide +kernel
theorem dX7_sitDown_69 : decode cX7_sitDown 69 = .ok (.ixor, 1) := by decide +kernel
theorem dX7_sitDown_70 : decode cX7_sitDown 70 = .ok (.iand, 1) := by decide +kernel
theorem dX7_sitDown_71 : decode cX7_sitDown 71 = .ok (.istore_n 3, 1) := by decide +kernel
theorem dX7_sitDown_72 : decode cX7_sitDown 72 = .ok (.iload 7, 2) := by decide +kernel
theorem dX7_sitDown_74 : decode cX7_sitDown 74 = .ok (.istore 4, 2) := by decide +kernel
theorem dX7_sitDown_76 : decode cX7_sitDown 76 = .ok (.aload_n 0, 1) := by decide +kernel
theorem dX7_sitDown_77 : decode cX7_sitDown 77 = .ok (.iload 6, 2) := by decide +kernel
theorem dX7_sitDown_79 : decode cX7_sitDown 79 = .ok (.iconst 1, 1) := by decide +kernel
theorem dX7_sitDown_80 : decode cX7_sitDown 80 = .ok (.iadd, 1) := by decide +kernel
theorem dX7_sitDown_81 : decode cX7_sitDown 81 = .ok (.putfield 18, 3) := by decide +kernel
theorem dX7_sitDown_84 : decode cX7_sitDown 84 = .ok (.iinc 6 1, 3) := by decide +kernel
theorem dX7_sitDown_87 : decode cX7_sitDown 87 = .ok (.goto (-58), 3) := by decide +kernel
theorem dX7_sitDown_90 : decode cX7_sitDown 90 = .ok (.iload 5, 2) := by decide +kernel
theorem dX7_sitDown_92 : decode cX7_sitDown 92 = .ok (.ireturn, 1) := by decide +kernel
abbrev rmX7_sitDown : Room := { frames := 3, cells := 0, slots := 0, locals := 72 }
set_option maxHeartbeats 4000000 in
set_option maxRecDepth 100000 in
theorem kX7_sitDown (l : Launch) (D : va_G) (cy : Nat → ClassId) (h0 : Nat) (h_p1 : Nat) (a0 : Nat → Nat) (a1 : Nat → Nat) (s0 : Rc) (s1 : Rc) (p2 : Int32) (res : Int32 × Rc) (h : fX7_sitDown p2 s0 s1 = some res) : CI l D cy yX7_sitDown wsX7_sitDown rmX7_sitDown [.ref h0, .ref h_p1, .int p2] (flat [WX7 cy h0 a0 s0, WX0 cy h_p1 a1 s1]) (flat [WX7 cy h0 a0 res.2, WX0 cy h_p1 a1 s1]) res.1 := by
  refine CI.of (cc := cX7_sitDown) (maxL := 8) (by decide) rfl (Nat.le_of_ble_eq_true rfl) ?_
  intro p e s m args below meth c A QQ ls E hr
  obtain ⟨hx, hb, hml, hown, hts, hK, hN, hP, hD, hA, hl⟩ := E
  have hret : ∀ (pc : Nat) (H : Heap) (locs : List Loc) (ls : Array Slot) (u : Int32 × Rc), u = res → va_P D vwCl (flat [WX7 cy h0 a0 u.2, WX0 cy h_p1 a1 s1]) H → va_D A (flat [WX7 cy h0 a0 u.2, WX0 cy h_p1 a1 s1]) → va_S A s.heap H locs → decode cX7_sitDown pc = .ok (.ireturn, 1) → W p l e rmX7_sitDown s m args below meth c H locs 0 0 QQ (F0 m pc ls [.int u.1]) := by
    intro pc H locs ls u hu hP hD hS hd; subst hu; exact hr pc H locs ls _ rfl hP hD hS hd
  clear hr
  have hl : lv_has ls 8 [(0, .ref h0), (1, .ref h_p1), (2, .int p2)] := hl
  have hinX0 : ∀ w ∈ wsX00, w ∈ wsX7_sitDown := fun _ h => List.mem_cons_of_mem _ (List.mem_append_right _ h)
  have hinX7 : ∀ w ∈ wsX70, w ∈ wsX7_sitDown := fun _ h => List.mem_cons_of_mem _ (List.mem_append_left _ (List.mem_append_right _ h))
  unfold fX7_sitDown at h
  suffices key : ∀ (H : Heap) (locs : List Loc), va_P D vwCl (flat [WX7 cy h0 a0 s0, WX0 cy h_p1 a1 s1]) H → va_S A s.heap H locs → W p l e rmX7_sitDown s m args below meth c H locs 0 0 QQ (F0 m 0 ls []) from key _ _ hP va_S.rf
  clear hP
  intro H locs hP hS
  refine lv_iload_n hx hb dX7_sitDown_0 rfl (lv_at hl 2 rfl) ?_
  refine lv_istore_n (lv' := [(3, .int p2), (0, .ref h0), (1, .ref h_p1), (2, .int p2)]) hx hb dX7_sitDown_1 rfl hl (by decide) rfl (fun ls hl => ?_)
  refine lv_iconst (v := -1) hx hb dX7_sitDown_2 (by decide) ?_
  refine lv_istore (lv' := [(4, .int (-1 : Int32)), (3, .int p2), (0, .ref h0), (1, .ref h_p1), (2, .int p2)]) hx hb dX7_sitDown_3 hl (by decide) rfl (fun ls hl => ?_)
  refine lv_aload_n hx hb dX7_sitDown_5 rfl (lv_at hl 2 rfl) ?_
  refine lv_aload_n hx hb dX7_sitDown_6 rfl (lv_at hl 3 rfl) ?_
  refine lv_iconst (v := -1) hx hb dX7_sitDown_7 (by decide) ?_
  refine lv_iload_n hx hb dX7_sitDown_8 rfl (lv_at hl 4 rfl) ?_
  refine lv_aload_n hx hb dX7_sitDown_9 rfl (lv_at hl 2 rfl) ?_
  refine lv_aload_n hx hb dX7_sitDown_10 rfl (lv_at hl 3 rfl) ?_
  refine lv_iconst (v := -1) hx hb dX7_sitDown_11 (by decide) ?_
  refine lv_iload_n hx hb dX7_sitDown_12 rfl (lv_at hl 4 rfl) ?_
  obtain ⟨r1, hr1, h⟩ := bd_elim h
  refine ca_i (w' := [WX7 cy h0 a0 s0, WX0 cy h_p1 a1 s1]) (rn_V (As := [.ref h_p1, .int (-1 : Int32), .int p2]) (rest := [.int p2, .int (-1 : Int32), .ref h_p1, .ref h0]) ⟨hx, hb, hml, hown, hts⟩ (kX7_cheapest l D cy h0 h_p1 a0 a1 s0 s1 (-1 : Int32) p2 r1 hr1 H.size) (cwV 3 hts gX7_sitDown_X7_cheapest rfl rfl rfl (by decide +kernel) ⟨Nat.le_of_ble_eq_true rfl, Nat.le_of_ble_eq_true rfl⟩) hK hN hP hD [0, 1] rfl rfl (ci := 7) (q0 := 0) rfl rfl rfl rfl hl.1 rfl (Nat.le_of_ble_eq_true rfl) dX7_sitDown_13 ⟨Nat.le_refl 0, Nat.le_refl 0⟩) hP hD hS hA [0, 1] ⟨rfl, rfl, rfl, rfl⟩ (fun H locs hP hD hS => ?_)
  obtain ⟨r2, hr2, h⟩ := bd_elim h
  refine ca_i (w' := [WX7 cy h0 a0 s0, WX0 cy h_p1 a1 s1]) (rn_V (As := [.ref h_p1, .int (-1 : Int32), .int p2, .int r1]) (rest := []) ⟨hx, hb, hml, hown, hts⟩ (kX7_cost l D cy h0 h_p1 a0 a1 s0 s1 (-1 : Int32) p2 r1 r2 hr2 H.size) (cwV 4 hts gX7_sitDown_X7_cost rfl rfl rfl (by decide +kernel) ⟨Nat.le_of_ble_eq_true rfl, Nat.le_of_ble_eq_true rfl⟩) hK hN hP hD [0, 1] rfl rfl (ci := 7) (q0 := 0) rfl rfl rfl rfl hl.1 rfl (Nat.le_of_ble_eq_true rfl) dX7_sitDown_16 ⟨Nat.le_refl 0, Nat.le_refl 0⟩) hP hD hS hA [0, 1] ⟨rfl, rfl, rfl, rfl⟩ (fun H locs hP hD hS => ?_)
  refine lv_istore (lv' := [(5, .int r2), (4, .int (-1 : Int32)), (3, .int p2), (0, .ref h0), (1, .ref h_p1), (2, .int p2)]) hx hb dX7_sitDown_19 hl (by decide) rfl (fun ls hl => ?_)
  refine lv_aload_n hx hb dX7_sitDown_21 rfl (lv_at hl 3 rfl) ?_
  refine lv_iconst (v := 0) hx hb dX7_sitDown_22 (by decide) ?_
  obtain ⟨s0_3, es, h⟩ := lt_elim h
  refine va_put (D := D) (ci := 7) (v := .int (0 : Int32)) (ty := .int) (C := RX7) (T := TX7) (N := 3) hx hb hts hinX7 tyX7 tyX7_ok nmX7 hown hK hP hD hS 0 rfl rfl 2 (by decide) (hts (.fieldLink RX7 18 "KneeBench$Seats" "taken" "I") (List.mem_of_getElem? (i := 1) rfl)) (fun _ h9 => h9) rfl (by decide +kernel) rfl rfl (Nat.le_of_ble_eq_true rfl) dX7_sitDown_23 (fun H locs hP hD hS => ?_)
  have hP : va_P D vwCl (flat [WX7 cy h0 a0 s0_3, WX0 cy h_p1 a1 s1]) H := by rw [es]; exact hP
  have hD : va_D A (flat [WX7 cy h0 a0 s0_3, WX0 cy h_p1 a1 s1]) := by rw [es]; exact hD
  clear es
  refine lv_iconst (v := 0) hx hb dX7_sitDown_26 (by decide) ?_
  refine lv_istore (lv' := [(6, .int (0 : Int32)), (5, .int r2), (4, .int (-1 : Int32)), (3, .int p2), (0, .ref h0), (1, .ref h_p1), (2, .int p2)]) hx hb dX7_sitDown_27 hl (by decide) rfl (fun ls hl => ?_)
  have L29 : ∀ (n : Nat) (q29 : Int32 × Int32 × Int32 × Rc) (o : Rc), loopO (fX7_sitDown_L29 s1) n q29 = some o → ∀ (H : Heap) (locs : List Loc) (ls : Array Slot), lv_has ls 8 [(5, .int r2), (0, .ref h0), (1, .ref h_p1), (3, .int q29.1), (4, .int q29.2.1), (6, .int q29.2.2.1)] → va_P D vwCl (flat [WX7 cy h0 a0 q29.2.2.2, WX0 cy h_p1 a1 s1]) H → va_D A (flat [WX7 cy h0 a0 q29.2.2.2, WX0 cy h_p1 a1 s1]) → va_S A s.heap H locs → ∀ (kk90 : ∀ (H : Heap) (locs : List Loc) (ls : Array Slot), lv_has ls 8 [(5, .int r2)] → va_P D vwCl (flat [WX7 cy h0 a0 o, WX0 cy h_p1 a1 s1]) H → va_D A (flat [WX7 cy h0 a0 o, WX0 cy h_p1 a1 s1]) → va_S A s.heap H locs → W p l e rmX7_sitDown s m args below meth c H locs 0 0 QQ (F0 m 90 ls [])), W p l e rmX7_sitDown s m args below meth c H locs 0 0 QQ (F0 m 29 ls []) := by
    intro n
    induction n with
    | zero => intro q29 o h; exact absurd h (by rw [loopO_zero]; intro z; cases z)
    | succ n ih =>
      intro q29 o h H locs ls hl hP hD hS kk90
      obtain ⟨w, h, hgo, hst⟩ := loopO_elim h
      unfold fX7_sitDown_L29 at h
      refine lv_iload hx hb dX7_sitDown_29 (lv_at hl 5 rfl) ?_
      refine lv_aload_n hx hb dX7_sitDown_31 rfl (lv_at hl 2 rfl) ?_
      refine va_getN (D := D) (ci := 0) (v := .int (gi s1 8)) (C := RX0) (T := TX0) (N := 14) hx hb hts hinX0 hown hK hP 3 rfl rfl 8 (by decide) (NW.fld hN 12 rfl _) (fun _ h9 => h9) rfl dX7_sitDown_32 ?_
      refine lv_icmp_ge (tgt := 90) hx hb dX7_sitDown_35 (by decide) (fun c4 => ?_) (fun c4 => ?_)
      · replace h := (if_pos c4).symm.trans h
        have eo := hst _ (Option.some.inj h).symm
        subst eo
        exact kk90 H locs ls (lv_sub hl [0] rfl) hP hD hS
      · replace h := (if_neg c4).symm.trans h
        refine lv_aload_n hx hb dX7_sitDown_38 rfl (lv_at hl 1 rfl) ?_
        refine lv_aload_n hx hb dX7_sitDown_39 rfl (lv_at hl 2 rfl) ?_
        refine lv_iload hx hb dX7_sitDown_40 (lv_at hl 4 rfl) ?_
        refine lv_iload_n hx hb dX7_sitDown_42 rfl (lv_at hl 3 rfl) ?_
        obtain ⟨r5, hr5, h⟩ := bd_elim h
        refine ca_i (w' := [WX7 cy h0 a0 q29.2.2.2, WX0 cy h_p1 a1 s1]) (rn_V (As := [.ref h_p1, .int q29.2.1, .int q29.1]) (rest := []) ⟨hx, hb, hml, hown, hts⟩ (kX7_cheapest l D cy h0 h_p1 a0 a1 q29.2.2.2 s1 q29.2.1 q29.1 r5 hr5 H.size) (cwV 3 hts gX7_sitDown_X7_cheapest rfl rfl rfl (by decide +kernel) ⟨Nat.le_of_ble_eq_true rfl, Nat.le_of_ble_eq_true rfl⟩) hK hN hP hD [0, 1] rfl rfl (ci := 7) (q0 := 0) rfl rfl rfl rfl hl.1 rfl (Nat.le_of_ble_eq_true rfl) dX7_sitDown_43 ⟨Nat.le_refl 0, Nat.le_refl 0⟩) hP hD hS hA [0, 1] ⟨rfl, rfl, rfl, rfl⟩ (fun H locs hP hD hS => ?_)
        refine lv_istore (lv' := [(7, .int r5), (5, .int r2), (0, .ref h0), (1, .ref h_p1), (3, .int q29.1), (4, .int q29.2.1), (6, .int q29.2.2.1)]) hx hb dX7_sitDown_46 hl (by decide) rfl (fun ls hl => ?_)
        refine lv_iload hx hb dX7_sitDown_48 (lv_at hl 0 rfl) ?_
        refine lv_iconst (v := -1) hx hb dX7_sitDown_50 (by decide) ?_
        refine lv_icmp_eq (tgt := 84) hx hb dX7_sitDown_51 (by decide) (fun c6 => ?_) (fun c6 => ?_)
        · replace h := (if_pos c6).symm.trans h
          refine lv_iinc (v := (q29.2.2.1 + (1 : Int32))) (lv' := [(6, .int (q29.2.2.1 + (1 : Int32))), (7, .int r5), (5, .int r2), (0, .ref h0), (1, .ref h_p1), (3, .int q29.1), (4, .int q29.2.1)]) hx hb dX7_sitDown_84 hl (k := 6) rfl rfl (by decide) rfl (fun ls hl => ?_)
          refine lv_goto (tgt := 29) hx hb dX7_sitDown_87 (by decide) ?_
          exact ih _ o (hgo _ (Option.some.inj h).symm) H locs ls (lv_sub hl [2, 3, 4, 5, 6, 0] rfl) hP hD hS kk90
        · replace h := (if_neg c6).symm.trans h
          refine lv_aload_n hx hb dX7_sitDown_54 rfl (lv_at hl 2 rfl) ?_
          refine va_get (D := D) (ci := 7) (v := .ref (a0 1)) (C := RX7) (T := TX7) (N := 3) hx hb hts hinX7 hown hK hP 0 rfl rfl 1 (by decide) (hts (.fieldLink RX7 15 "KneeBench$Seats" "row" "[I") (List.mem_of_getElem? (i := 2) rfl)) (fun _ h9 => h9) rfl dX7_sitDown_55 ?_
          refine lv_iload hx hb dX7_sitDown_58 (lv_at hl 6 rfl) ?_
          refine lv_iload hx hb dX7_sitDown_60 (lv_at hl 0 rfl) ?_
          obtain ⟨g7, h⟩ := gd_elim h
          obtain ⟨s0_8, es, h⟩ := lt_elim h
          refine va_iast hx hb hK hP hD hS 2 1 rfl rfl (inb_in g7) dX7_sitDown_62 (fun H locs hP hD hS => ?_)
          have hP : va_P D vwCl (flat [WX7 cy h0 a0 s0_8, WX0 cy h_p1 a1 s1]) H := by rw [es]; exact hP
          have hD : va_D A (flat [WX7 cy h0 a0 s0_8, WX0 cy h_p1 a1 s1]) := by rw [es]; exact hD
          clear es
          refine lv_iload_n hx hb dX7_sitDown_63 rfl (lv_at hl 4 rfl) ?_
          refine lv_iconst (v := 1) hx hb dX7_sitDown_64 (by decide) ?_
          refine lv_iload hx hb dX7_sitDown_65 (lv_at hl 0 rfl) ?_
          refine lv_ishl hx hb dX7_sitDown_67 ?_
          refine lv_iconst (v := -1) hx hb dX7_sitDown_68 (by decide) ?_
          refine lv_ixor hx hb dX7_sitDown_69 ?_
          refine lv_iand hx hb dX7_sitDown_70 ?_
          refine lv_topi (fun x9 ex9 => ?_)
          replace h := lt_use h x9 ex9
          refine lv_istore_n (lv' := [(3, .int x9), (7, .int r5), (5, .int r2), (0, .ref h0), (1, .ref h_p1), (4, .int q29.2.1), (6, .int q29.2.2.1)]) hx hb dX7_sitDown_71 rfl hl (by decide) rfl (fun ls hl => ?_)
          refine lv_iload hx hb dX7_sitDown_72 (lv_at hl 1 rfl) ?_
          refine lv_istore (lv' := [(4, .int r5), (3, .int x9), (7, .int r5), (5, .int r2), (0, .ref h0), (1, .ref h_p1), (6, .int q29.2.2.1)]) hx hb dX7_sitDown_74 hl (by decide) rfl (fun ls hl => ?_)
          refine lv_aload_n hx hb dX7_sitDown_76 rfl (lv_at hl 4 rfl) ?_
          refine lv_iload hx hb dX7_sitDown_77 (lv_at hl 6 rfl) ?_
          refine lv_iconst (v := 1) hx hb dX7_sitDown_79 (by decide) ?_
          refine lv_iadd hx hb dX7_sitDown_80 ?_
          obtain ⟨s0_10, es, h⟩ := lt_elim h
          refine va_put (D := D) (ci := 7) (v := .int (q29.2.2.1 + (1 : Int32))) (ty := .int) (C := RX7) (T := TX7) (N := 3) hx hb hts hinX7 tyX7 tyX7_ok nmX7 hown hK hP hD hS 0 rfl rfl 2 (by decide) (hts (.fieldLink RX7 18 "KneeBench$Seats" "taken" "I") (List.mem_of_getElem? (i := 1) rfl)) (fun _ h9 => h9) rfl (by decide +kernel) rfl rfl (Nat.le_of_ble_eq_true rfl) dX7_sitDown_81 (fun H locs hP hD hS => ?_)
          have hP : va_P D vwCl (flat [WX7 cy h0 a0 s0_10, WX0 cy h_p1 a1 s1]) H := by rw [es]; exact hP
          have hD : va_D A (flat [WX7 cy h0 a0 s0_10, WX0 cy h_p1 a1 s1]) := by rw [es]; exact hD
          clear es
          refine lv_iinc (v := (q29.2.2.1 + (1 : Int32))) (lv' := [(6, .int (q29.2.2.1 + (1 : Int32))), (4, .int r5), (3, .int x9), (7, .int r5), (5, .int r2), (0, .ref h0), (1, .ref h_p1)]) hx hb dX7_sitDown_84 hl (k := 6) rfl rfl (by decide) rfl (fun ls hl => ?_)
          refine lv_goto (tgt := 29) hx hb dX7_sitDown_87 (by decide) ?_
          exact ih _ o (hgo _ (Option.some.inj h).symm) H locs ls (lv_sub hl [4, 5, 6, 2, 1, 0] rfl) hP hD hS kk90
  obtain ⟨o29, ho29, h⟩ := bd_elim h
  obtain ⟨n29, hn29⟩ := loopF_some ho29
  refine L29 n29 _ o29 hn29 H locs ls (lv_sub hl [1, 4, 5, 3, 2, 0] rfl) hP hD hS (fun H locs ls hl hP hD hS => ?_)
  refine lv_iload hx hb dX7_sitDown_90 (lv_at hl 0 rfl) ?_
  exact hret 92 H locs ls (r2, o29) (Option.some.inj h) hP hD hS dX7_sitDown_92
theorem gd_X7_seat : wsX7_seat.all goodWord = true := by decide +kernel
set_option maxRecDepth 20000 in
theorem ggX7_seat_X7_cheapest : GoodIn wsX7_seat wsX7_cheapest := goodIn_by gd_X7_seat (List.forall_mem_cons.mpr ⟨List.mem_cons_of_mem _ (List.mem_append_left _ (List.mem_append_left _ (List.mem_of_getElem? (i := 5) rfl))), List.forall_mem_append.mpr ⟨List.forall_mem_append.mpr ⟨List.forall_mem_cons.mpr ⟨List.mem_cons_of_mem _ (List.mem_append_left _ (List.mem_append_left _ (List.mem_of_getElem? (i := 6) rfl))), List.forall_mem_cons.mpr ⟨List.mem_cons_of_mem _ (List.mem_append_left _ (List.mem_append_left _ (List.mem_of_getElem? (i := 7) rfl))), List.forall_mem_cons.mpr ⟨List.mem_cons_of_mem _ (List.mem_append_left _ (List.mem_append_left _ (List.mem_of_getElem? (i := 8) rfl))), List.forall_mem_cons.mpr ⟨List.mem_cons_of_mem _ (List.mem_append_left _ (List.mem_append_left _ (List.mem_of_getElem? (i := 4) rfl))), List.forall_mem_cons.mpr ⟨List.mem_cons_of_mem _ (List.mem_append_left _ (List.mem_append_left _ (List.mem_of_getElem? (i := 9) rfl))), List.forall_mem_cons.mpr ⟨List.mem_cons_of_mem _ (List.mem_append_left _ (List.mem_append_left _ (List.mem_of_getElem? (i := 0) rfl))), List.forall_mem_cons.mpr ⟨List.mem_cons_of_mem _ (List.mem_append_left _ (List.mem_append_left _ (List.mem_of_getElem? (i := 10) rfl))), List.forall_mem_cons.mpr ⟨List.mem_cons_of_mem _ (List.mem_append_left _ (List.mem_append_left _ (List.mem_of_getElem? (i := 11) rfl))), List.forall_mem_cons.mpr ⟨List.mem_cons_of_mem _ (List.mem_append_left _ (List.mem_append_left _ (List.mem_of_getElem? (i := 12) rfl))), List.forall_mem_cons.mpr ⟨List.mem_cons_of_mem _ (List.mem_append_left _ (List.mem_append_left _ (List.mem_of_getElem? (i := 13) rfl))), List.forall_mem_cons.mpr ⟨List.mem_cons_of_mem _ (List.mem_append_left _ (List.mem_append_left _ (List.mem_of_getElem? (i := 14) rfl))), List.forall_mem_cons.mpr ⟨List.mem_cons_of_mem _ (List.mem_append_left _ (List.mem_append_left _ (List.mem_of_getElem? (i := 15) rfl))), nowords_in⟩⟩⟩⟩⟩⟩⟩⟩⟩⟩⟩⟩, (fun _ h => List.mem_cons_of_mem _ (List.mem_append_left _ (List.mem_append_right _ (h))))⟩, (fun _ h => List.mem_cons_of_mem _ (List.mem_append_right _ (h)))⟩⟩)
set_option maxRecDepth 20000 in
theorem gX7_seat_X7_cheapest : GoodIn wsX7_seat (wsV RX7 27 RX7 yX7_cheapest wsX7_cheapest) := goodIn_app (goodIn_by gd_X7_seat (List.forall_mem_cons.mpr ⟨List.mem_cons_of_mem _ (List.mem_append_left _ (List.mem_append_left _ (List.mem_of_getElem? (i := 1) rfl))), List.forall_mem_cons.mpr ⟨List.mem_cons_of_mem _ (List.mem_append_left _ (List.mem_append_left _ (List.mem_of_getElem? (i := 2) rfl))), List.forall_mem_cons.mpr ⟨List.mem_cons_of_mem _ (List.mem_append_left _ (List.mem_append_left _ (List.mem_of_getElem? (i := 3) rfl))), List.forall_mem_cons.mpr ⟨List.mem_cons_of_mem _ (List.mem_append_left _ (List.mem_append_left _ (List.mem_of_getElem? (i := 4) rfl))), nowords_in⟩⟩⟩⟩)) ggX7_seat_X7_cheapest
set_option maxRecDepth 20000 in
theorem ggX7_seat_X7_cost : GoodIn wsX7_seat wsX7_cost := goodIn_by gd_X7_seat (List.forall_mem_cons.mpr ⟨List.mem_cons_of_mem _ (List.mem_append_left _ (List.mem_append_left _ (List.mem_of_getElem? (i := 9) rfl))), List.forall_mem_append.mpr ⟨List.forall_mem_append.mpr ⟨List.forall_mem_cons.mpr ⟨List.mem_cons_of_mem _ (List.mem_append_left _ (List.mem_append_left _ (List.mem_of_getElem? (i := 0) rfl))), List.forall_mem_cons.mpr ⟨List.mem_cons_of_mem _ (List.mem_append_left _ (List.mem_append_left _ (List.mem_of_getElem? (i := 10) rfl))), List.forall_mem_cons.mpr ⟨List.mem_cons_of_mem _ (List.mem_append_left _ (List.mem_append_left _ (List.mem_of_getElem? (i := 11) rfl))), List.forall_mem_cons.mpr ⟨List.mem_cons_of_mem _ (List.mem_append_left _ (List.mem_append_left _ (List.mem_of_getElem? (i := 12) rfl))), List.forall_mem_cons.mpr ⟨List.mem_cons_of_mem _ (List.mem_append_left _ (List.mem_append_left _ (List.mem_of_getElem? (i := 13) rfl))), List.forall_mem_cons.mpr ⟨List.mem_cons_of_mem _ (List.mem_append_left _ (List.mem_append_left _ (List.mem_of_getElem? (i := 14) rfl))), List.forall_mem_cons.mpr ⟨List.mem_cons_of_mem _ (List.mem_append_left _ (List.mem_append_left _ (List.mem_of_getElem? (i := 15) rfl))), nowords_in⟩⟩⟩⟩⟩⟩⟩, (fun _ h => List.mem_cons_of_mem _ (List.mem_append_right _ (h)))⟩, (fun _ h => List.mem_cons_of_mem _ (List.mem_append_left _ (List.mem_append_right _ (h))))⟩⟩)
set_option maxRecDepth 20000 in
theorem gX7_seat_X7_cost : GoodIn wsX7_seat (wsV RX7 31 RX7 yX7_cost wsX7_cost) := goodIn_app (goodIn_by gd_X7_seat (List.forall_mem_cons.mpr ⟨List.mem_cons_of_mem _ (List.mem_append_left _ (List.mem_append_left _ (List.mem_of_getElem? (i := 6) rfl))), List.forall_mem_cons.mpr ⟨List.mem_cons_of_mem _ (List.mem_append_left _ (List.mem_append_left _ (List.mem_of_getElem? (i := 7) rfl))), List.forall_mem_cons.mpr ⟨List.mem_cons_of_mem _ (List.mem_append_left _ (List.mem_append_left _ (List.mem_of_getElem? (i := 8) rfl))), List.forall_mem_cons.mpr ⟨List.mem_cons_of_mem _ (List.mem_append_left _ (List.mem_append_left _ (List.mem_of_getElem? (i := 4) rfl))), nowords_in⟩⟩⟩⟩)) ggX7_seat_X7_cost
set_option maxRecDepth 20000 in
theorem ggX7_seat_X7_sitDown : GoodIn wsX7_seat wsX7_sitDown := goodIn_by gd_X7_seat (List.forall_mem_cons.mpr ⟨List.mem_cons_of_mem _ (List.mem_append_left _ (List.mem_append_left _ (List.mem_of_getElem? (i := 19) rfl))), List.forall_mem_append.mpr ⟨List.forall_mem_append.mpr ⟨List.forall_mem_cons.mpr ⟨List.mem_cons_of_mem _ (List.mem_append_left _ (List.mem_append_left _ (List.mem_of_getElem? (i := 20) rfl))), List.forall_mem_cons.mpr ⟨List.mem_cons_of_mem _ (List.mem_append_left _ (List.mem_append_left _ (List.mem_of_getElem? (i := 21) rfl))), List.forall_mem_cons.mpr ⟨List.mem_cons_of_mem _ (List.mem_append_left _ (List.mem_append_left _ (List.mem_of_getElem? (i := 1) rfl))), List.forall_mem_cons.mpr ⟨List.mem_cons_of_mem _ (List.mem_append_left _ (List.mem_append_left _ (List.mem_of_getElem? (i := 2) rfl))), List.forall_mem_cons.mpr ⟨List.mem_cons_of_mem _ (List.mem_append_left _ (List.mem_append_left _ (List.mem_of_getElem? (i := 3) rfl))), List.forall_mem_cons.mpr ⟨List.mem_cons_of_mem _ (List.mem_append_left _ (List.mem_append_left _ (List.mem_of_getElem? (i := 4) rfl))), List.forall_mem_cons.mpr ⟨List.mem_cons_of_mem _ (List.mem_append_left _ (List.mem_append_left _ (List.mem_of_getElem? (i := 5) rfl))), List.forall_mem_cons.mpr ⟨List.mem_cons_of_mem _ (List.mem_append_left _ (List.mem_append_left _ (List.mem_of_getElem? (i := 6) rfl))), List.forall_mem_cons.mpr ⟨List.mem_cons_of_mem _ (List.mem_append_left _ (List.mem_append_left _ (List.mem_of_getElem? (i := 7) rfl))), List.forall_mem_cons.mpr ⟨List.mem_cons_of_mem _ (List.mem_append_left _ (List.mem_append_left _ (List.mem_of_getElem? (i := 8) rfl))), List.forall_mem_cons.mpr ⟨List.mem_cons_of_mem _ (List.mem_append_left _ (List.mem_append_left _ (List.mem_of_getElem? (i := 9) rfl))), List.forall_mem_cons.mpr ⟨List.mem_cons_of_mem _ (List.mem_append_left _ (List.mem_append_left _ (List.mem_of_getElem? (i := 0) rfl))), List.forall_mem_cons.mpr ⟨List.mem_cons_of_mem _ (List.mem_append_left _ (List.mem_append_left _ (List.mem_of_getElem? (i := 10) rfl))), List.forall_mem_cons.mpr ⟨List.mem_cons_of_mem _ (List.mem_append_left _ (List.mem_append_left _ (List.mem_of_getElem? (i := 11) rfl))), List.forall_mem_cons.mpr ⟨List.mem_cons_of_mem _ (List.mem_append_left _ (List.mem_append_left _ (List.mem_of_getElem? (i := 12) rfl))), List.forall_mem_cons.mpr ⟨List.mem_cons_of_mem _ (List.mem_append_left _ (List.mem_append_left _ (List.mem_of_getElem? (i := 13) rfl))), List.forall_mem_cons.mpr ⟨List.mem_cons_of_mem _ (List.mem_append_left _ (List.mem_append_left _ (List.mem_of_getElem? (i := 14) rfl))), List.forall_mem_cons.mpr ⟨List.mem_cons_of_mem _ (List.mem_append_left _ (List.mem_append_left _ (List.mem_of_getElem? (i := 15) rfl))), nowords_in⟩⟩⟩⟩⟩⟩⟩⟩⟩⟩⟩⟩⟩⟩⟩⟩⟩⟩, (fun _ h => List.mem_cons_of_mem _ (List.mem_append_right _ (h)))⟩, (fun _ h => List.mem_cons_of_mem _ (List.mem_append_left _ (List.mem_append_right _ (h))))⟩⟩)
set_option maxRecDepth 20000 in
theorem gX7_seat_X7_sitDown : GoodIn wsX7_seat (wsV RX7 35 RX7 yX7_sitDown wsX7_sitDown) := goodIn_app (goodIn_by gd_X7_seat (List.forall_mem_cons.mpr ⟨List.mem_cons_of_mem _ (List.mem_append_left _ (List.mem_append_left _ (List.mem_of_getElem? (i := 16) rfl))), List.forall_mem_cons.mpr ⟨List.mem_cons_of_mem _ (List.mem_append_left _ (List.mem_append_left _ (List.mem_of_getElem? (i := 17) rfl))), List.forall_mem_cons.mpr ⟨List.mem_cons_of_mem _ (List.mem_append_left _ (List.mem_append_left _ (List.mem_of_getElem? (i := 18) rfl))), List.forall_mem_cons.mpr ⟨List.mem_cons_of_mem _ (List.mem_append_left _ (List.mem_append_left _ (List.mem_of_getElem? (i := 4) rfl))), nowords_in⟩⟩⟩⟩)) ggX7_seat_X7_sitDown
theorem dX7_seat_0 : decode cX7_seat 0 = .ok (.iconst 1, 1) := by decide +kernel
theorem dX7_seat_1 : decode cX7_seat 1 = .ok (.aload_n 1, 1) := by decide +kernel
theorem dX7_seat_2 : decode cX7_seat 2 = .ok (.getfield 22, 3) := by decide +kernel
theorem dX7_seat_5 : decode cX7_seat 5 = .ok (.ishl, 1) := by decide +kernel
theorem dX7_seat_6 : decode cX7_seat 6 = .ok (.iconst 1, 1) := by decide +kernel
theorem dX7_seat_7 : decode cX7_seat 7 = .ok (.isub, 1) := by decide +kernel
theorem dX7_seat_8 : decode cX7_seat 8 = .ok (.istore_n 2, 1) := by decide +kernel
theorem dX7_seat_9 : decode cX7_seat 9 = .ok (.iconst 1, 1) := by decide +kernel
theorem dX7_seat_10 : decode cX7_seat 10 = .ok (.istore_n 3, 1) := by decide +kernel
theorem dX7_seat_11 : decode cX7_seat 11 = .ok (.iload_n 3, 1) := by decide +kernel
theorem dX7_seat_12 : decode cX7_seat 12 = .ok (.iload_n 2, 1) := by decide +kernel
theorem dX7_seat_13 : decode cX7_seat 13 = .ok (.if_icmp .gt 76, 3) := by decide +kernel
theorem dX7_seat_16 : decode cX7_seat 16 = .ok (.iconst 0, 1) := by decide +kernel
theorem dX7_seat_17 : decode cX7_seat 17 = .ok (.istore 4, 2) := by decide +kernel
theorem dX7_seat_19 : decode cX7_seat 19 = .ok (.iload 4, 2) := by decide +kernel
theorem dX7_seat_21 : decode cX7_seat 21 = .ok (.aload_n 1, 1) := by decide +kernel
theorem dX7_seat_22 : decode cX7_seat 22 = .ok (.getfield 22, 3) := by decide +kernel
theorem dX7_seat_25 : decode cX7_seat 25 = .ok (.if_icmp .ge 58, 3) := by decide +kernel
theorem dX7_seat_28 : decode cX7_seat 28 = .ok (.iload_n 3, 1) := by decide +kernel
theorem dX7_seat_29 : decode cX7_seat 29 = .ok (.iload 4, 2) := by decide +kernel
theorem dX7_seat_31 : decode cX7_seat 31 = .ok (.iushr, 1) := by decide +kernel
theorem dX7_seat_32 : decode cX7_seat 32 = .ok (.iconst 1, 1) := by decide +kernel
theorem dX7_seat_33 : decode cX7_seat 33 = .ok (.iand, 1) := by decide +kernel
theorem dX7_seat_34 : decode cX7_seat 34 = .ok (.ifCond .eq 43, 3) := by decide +kernel
theorem dX7_seat_37 : decode cX7_seat 37 = .ok (.iload_n 3, 1) := by decide +kernel
theorem dX7_seat_38 : decode cX7_seat 38 = .ok (.iconst 1, 1) := by decide +kernel
theorem dX7_seat_39 : decode cX7_seat 39 = .ok (.iload 4, 2) := by decide +kernel
theorem dX7_seat_41 : decode cX7_seat 41 = .ok (.ishl, 1) := by decide +kernel
theorem dX7_seat_42 : decode cX7_seat 42 = .ok (.iconst (-1), 1) := by decide +kernel
theorem dX7_seat_43 : decode cX7_seat 43 = .ok (.ixor, 1) := by decide +kernel
theorem dX7_seat_44 : decode cX7_seat 44 = .ok (.iand, 1) := by decide +kernel
theorem dX7_seat_45 : decode cX7_seat 45 = .ok (.istore 5, 2) := by decide +kernel
theorem dX7_seat_47 : decode cX7_seat 47 = .ok (.aload_n 0, 1) := by decide +kernel
theorem dX7_seat_48 : decode cX7_seat 48 = .ok (.getfield 9, 3) := by decide +kernel
theorem dX7_seat_51 : decode cX7_seat 51 = .ok (.iload_n 3, 1) := by decide +kernel
theorem dX7_seat_52 : decode cX7_seat 52 = .ok (.bipush 8, 2) := by decide +kernel
theorem dX7_seat_54 : decode cX7_seat 54 = .ok (.imul, 1) := by decide +kernel
theorem dX7_seat_55 : decode cX7_seat 55 = .ok (.iload 4, 2) := by decide +kernel
theorem dX7_seat_57 : decode cX7_seat 57 = .ok (.iadd, 1) := by decide +kernel
theorem dX7_seat_58 : decode cX7_seat 58 = .ok (.aload_n 0, 1) := by decide +kernel
theorem dX7_seat_59 : decode cX7_seat 59 = .ok (.aload_n 1, 1) := by decide +kernel
theorem dX7_seat_60 : decode cX7_seat 60 = .ok (.iload 4, 2) := by decide +kernel
theorem dX7_seat_62 : decode cX7_seat 62 = .ok (.iload 5, 2) := by decide +kernel
theorem dX7_seat_64 : decode cX7_seat 64 = .ok (.aload_n 0, 1) := by decide +kernel
theorem dX7_seat_65 : decode cX7_seat 65 = .ok (.aload_n 1, 1) := by decide +kernel
theorem dX7_seat_66 : decode cX7_seat 66 = .ok (.iload 4, 2) := by decide +kernel
theorem dX7_seat_68 : decode cX7_seat 68 = .ok (.iload 5, 2) := by decide +kernel
theorem dX7_seat_70 : decode cX7_seat 70 = .ok (.invokevirtual 27, 3) := by decide +kernel
theorem dX7_seat_73 : decode cX7_seat 73 = .ok (.invokevirtual 31, 3) := by decide +kernel
theorem dX7_seat_76 : decode cX7_seat 76 = .ok (.iastore, 1) := by decide +kernel
theorem dX7_seat_77 : decode cX7_seat 77 = .ok (.iinc 4 1, 3) := by decide +kernel
theorem dX7_seat_80 : decode cX7_seat 80 = .ok (.goto (-61), 3) := by decide +kernel
theorem dX7_seat_83 : decode cX7_seat 83 = .ok (.iinc 3 1, 3) := by decide +kernel
theorem dX7_seat_86 : decode cX7_seat 86 = .ok (.goto (-75), 3) := by decide +kernel
theorem dX7_seat_89 : decode cX7_seat 89 = .ok (.aload_n 0, 1) := by decide +kernel
theorem dX7_seat_90 : decode cX7_seat 90 = .ok (.aload_n 1, 1) := by decide +kernel
theorem dX7_seat_91 : decode cX7_seat 91 = .ok (.iload_n 2, 1) := by decide +kernel
theorem dX7_seat_92 : decode cX7_seat 92 = .ok (.invokevirtual 35, 3) := by decide +kernel
theorem dX7_seat_95 : decode cX7_seat 95 = .ok (.ireturn, 1) := by decide +kernel
abbrev rmX7_seat : Room := { frames := 4, cells := 0, slots := 0, locals := 99 }
set_option maxHeartbeats 4000000 in
set_option maxRecDepth 100000 in
theorem kX7_seat (l : Launch) (D : va_G) (cy : Nat → ClassId) (h0 : Nat) (h_p1 : Nat) (a0 : Nat → Nat) (a1 : Nat → Nat) (s0 : Rc) (s1 : Rc) (res : Int32 × Rc) (h : fX7_seat s0 s1 = some res) : CI l D cy yX7_seat wsX7_seat rmX7_seat [.ref h0, .ref h_p1] (flat [WX7 cy h0 a0 s0, WX0 cy h_p1 a1 s1]) (flat [WX7 cy h0 a0 res.2, WX0 cy h_p1 a1 s1]) res.1 := by
  refine CI.of (cc := cX7_seat) (maxL := 6) (by decide) rfl (Nat.le_of_ble_eq_true rfl) ?_
  intro p e s m args below meth c A QQ ls E hr
  obtain ⟨hx, hb, hml, hown, hts, hK, hN, hP, hD, hA, hl⟩ := E
  have hret : ∀ (pc : Nat) (H : Heap) (locs : List Loc) (ls : Array Slot) (u : Int32 × Rc), u = res → va_P D vwCl (flat [WX7 cy h0 a0 u.2, WX0 cy h_p1 a1 s1]) H → va_D A (flat [WX7 cy h0 a0 u.2, WX0 cy h_p1 a1 s1]) → va_S A s.heap H locs → decode cX7_seat pc = .ok (.ireturn, 1) → W p l e rmX7_seat s m args below meth c H locs 0 0 QQ (F0 m pc ls [.int u.1]) := by
    intro pc H locs ls u hu hP hD hS hd; subst hu; exact hr pc H locs ls _ rfl hP hD hS hd
  clear hr
  have hl : lv_has ls 6 [(0, .ref h0), (1, .ref h_p1)] := hl
  have hinX0 : ∀ w ∈ wsX00, w ∈ wsX7_seat := fun _ h => List.mem_cons_of_mem _ (List.mem_append_left _ (List.mem_append_right _ h))
  have hinX7 : ∀ w ∈ wsX70, w ∈ wsX7_seat := fun _ h => List.mem_cons_of_mem _ (List.mem_append_right _ h)
  unfold fX7_seat at h
  suffices key : ∀ (H : Heap) (locs : List Loc), va_P D vwCl (flat [WX7 cy h0 a0 s0, WX0 cy h_p1 a1 s1]) H → va_S A s.heap H locs → W p l e rmX7_seat s m args below meth c H locs 0 0 QQ (F0 m 0 ls []) from key _ _ hP va_S.rf
  clear hP
  intro H locs hP hS
  refine lv_iconst (v := 1) hx hb dX7_seat_0 (by decide) ?_
  refine lv_aload_n hx hb dX7_seat_1 rfl (lv_at hl 1 rfl) ?_
  refine va_getN (D := D) (ci := 0) (v := .int (gi s1 8)) (C := RX0) (T := TX0) (N := 14) hx hb hts hinX0 hown hK hP 3 rfl rfl 8 (by decide) (NW.fld hN 12 rfl _) (fun _ h9 => h9) rfl dX7_seat_2 ?_
  refine lv_ishl hx hb dX7_seat_5 ?_
  refine lv_iconst (v := 1) hx hb dX7_seat_6 (by decide) ?_
  refine lv_isub hx hb dX7_seat_7 ?_
  refine lv_topi (fun x1 ex1 => ?_)
  replace h := lt_use h x1 ex1
  refine lv_istore_n (lv' := [(2, .int x1), (0, .ref h0), (1, .ref h_p1)]) hx hb dX7_seat_8 rfl hl (by decide) rfl (fun ls hl => ?_)
  refine lv_iconst (v := 1) hx hb dX7_seat_9 (by decide) ?_
  refine lv_istore_n (lv' := [(3, .int (1 : Int32)), (2, .int x1), (0, .ref h0), (1, .ref h_p1)]) hx hb dX7_seat_10 rfl hl (by decide) rfl (fun ls hl => ?_)
  have L11 : ∀ (n : Nat) (q11 : Int32 × Rc) (o : Rc), loopO (fX7_seat_L11 s1 x1) n q11 = some o → ∀ (H : Heap) (locs : List Loc) (ls : Array Slot), lv_has ls 6 [(2, .int x1), (0, .ref h0), (1, .ref h_p1), (3, .int q11.1)] → va_P D vwCl (flat [WX7 cy h0 a0 q11.2, WX0 cy h_p1 a1 s1]) H → va_D A (flat [WX7 cy h0 a0 q11.2, WX0 cy h_p1 a1 s1]) → va_S A s.heap H locs → ∀ (kk89 : ∀ (H : Heap) (locs : List Loc) (ls : Array Slot), lv_has ls 6 [(2, .int x1), (0, .ref h0), (1, .ref h_p1)] → va_P D vwCl (flat [WX7 cy h0 a0 o, WX0 cy h_p1 a1 s1]) H → va_D A (flat [WX7 cy h0 a0 o, WX0 cy h_p1 a1 s1]) → va_S A s.heap H locs → W p l e rmX7_seat s m args below meth c H locs 0 0 QQ (F0 m 89 ls [])), W p l e rmX7_seat s m args below meth c H locs 0 0 QQ (F0 m 11 ls []) := by
    intro n
    induction n with
    | zero => intro q11 o h; exact absurd h (by rw [loopO_zero]; intro z; cases z)
    | succ n ih =>
      intro q11 o h H locs ls hl hP hD hS kk89
      obtain ⟨w, h, hgo, hst⟩ := loopO_elim h
      unfold fX7_seat_L11 at h
      refine lv_iload_n hx hb dX7_seat_11 rfl (lv_at hl 3 rfl) ?_
      refine lv_iload_n hx hb dX7_seat_12 rfl (lv_at hl 0 rfl) ?_
      refine lv_icmp_gt (tgt := 89) hx hb dX7_seat_13 (by decide) (fun c2 => ?_) (fun c2 => ?_)
      · replace h := (if_pos c2).symm.trans h
        have eo := hst _ (Option.some.inj h).symm
        subst eo
        exact kk89 H locs ls (lv_sub hl [0, 1, 2] rfl) hP hD hS
      · replace h := (if_neg c2).symm.trans h
        refine lv_iconst (v := 0) hx hb dX7_seat_16 (by decide) ?_
        refine lv_istore (lv' := [(4, .int (0 : Int32)), (2, .int x1), (0, .ref h0), (1, .ref h_p1), (3, .int q11.1)]) hx hb dX7_seat_17 hl (by decide) rfl (fun ls hl => ?_)
        have L19 : ∀ (n : Nat) (q19 : Int32 × Rc) (o : Rc), loopO (fX7_seat_L19 s1 q11) n q19 = some o → ∀ (H : Heap) (locs : List Loc) (ls : Array Slot), lv_has ls 6 [(2, .int x1), (0, .ref h0), (1, .ref h_p1), (3, .int q11.1), (4, .int q19.1)] → va_P D vwCl (flat [WX7 cy h0 a0 q19.2, WX0 cy h_p1 a1 s1]) H → va_D A (flat [WX7 cy h0 a0 q19.2, WX0 cy h_p1 a1 s1]) → va_S A s.heap H locs → ∀ (kk83 : ∀ (H : Heap) (locs : List Loc) (ls : Array Slot), lv_has ls 6 [(2, .int x1), (0, .ref h0), (1, .ref h_p1), (3, .int q11.1)] → va_P D vwCl (flat [WX7 cy h0 a0 o, WX0 cy h_p1 a1 s1]) H → va_D A (flat [WX7 cy h0 a0 o, WX0 cy h_p1 a1 s1]) → va_S A s.heap H locs → W p l e rmX7_seat s m args below meth c H locs 0 0 QQ (F0 m 83 ls [])), W p l e rmX7_seat s m args below meth c H locs 0 0 QQ (F0 m 19 ls []) := by
          intro n
          induction n with
          | zero => intro q19 o h; exact absurd h (by rw [loopO_zero]; intro z; cases z)
          | succ n ih =>
            intro q19 o h H locs ls hl hP hD hS kk83
            obtain ⟨w, h, hgo, hst⟩ := loopO_elim h
            unfold fX7_seat_L19 at h
            refine lv_iload hx hb dX7_seat_19 (lv_at hl 4 rfl) ?_
            refine lv_aload_n hx hb dX7_seat_21 rfl (lv_at hl 2 rfl) ?_
            refine va_getN (D := D) (ci := 0) (v := .int (gi s1 8)) (C := RX0) (T := TX0) (N := 14) hx hb hts hinX0 hown hK hP 3 rfl rfl 8 (by decide) (NW.fld hN 12 rfl _) (fun _ h9 => h9) rfl dX7_seat_22 ?_
            refine lv_icmp_ge (tgt := 83) hx hb dX7_seat_25 (by decide) (fun c3 => ?_) (fun c3 => ?_)
            · replace h := (if_pos c3).symm.trans h
              have eo := hst _ (Option.some.inj h).symm
              subst eo
              exact kk83 H locs ls (lv_sub hl [0, 1, 2, 3] rfl) hP hD hS
            · replace h := (if_neg c3).symm.trans h
              refine lv_iload_n hx hb dX7_seat_28 rfl (lv_at hl 3 rfl) ?_
              refine lv_iload hx hb dX7_seat_29 (lv_at hl 4 rfl) ?_
              refine lv_iushr hx hb dX7_seat_31 rfl ?_
              refine lv_iconst (v := 1) hx hb dX7_seat_32 (by decide) ?_
              refine lv_iand hx hb dX7_seat_33 ?_
              refine lv_if_eq (tgt := 77) hx hb dX7_seat_34 (by decide) (fun c4 => ?_) (fun c4 => ?_)
              · replace h := (if_pos c4).symm.trans h
                refine lv_iinc (v := (q19.1 + (1 : Int32))) (lv' := [(4, .int (q19.1 + (1 : Int32))), (2, .int x1), (0, .ref h0), (1, .ref h_p1), (3, .int q11.1)]) hx hb dX7_seat_77 hl (k := 4) rfl rfl (by decide) rfl (fun ls hl => ?_)
                refine lv_goto (tgt := 19) hx hb dX7_seat_80 (by decide) ?_
                exact ih _ o (hgo _ (Option.some.inj h).symm) H locs ls (lv_sub hl [1, 2, 3, 4, 0] rfl) hP hD hS kk83
              · replace h := (if_neg c4).symm.trans h
                refine lv_iload_n hx hb dX7_seat_37 rfl (lv_at hl 3 rfl) ?_
                refine lv_iconst (v := 1) hx hb dX7_seat_38 (by decide) ?_
                refine lv_iload hx hb dX7_seat_39 (lv_at hl 4 rfl) ?_
                refine lv_ishl hx hb dX7_seat_41 ?_
                refine lv_iconst (v := -1) hx hb dX7_seat_42 (by decide) ?_
                refine lv_ixor hx hb dX7_seat_43 ?_
                refine lv_iand hx hb dX7_seat_44 ?_
                refine lv_topi (fun x5 ex5 => ?_)
                replace h := lt_use h x5 ex5
                refine lv_istore (lv' := [(5, .int x5), (2, .int x1), (0, .ref h0), (1, .ref h_p1), (3, .int q11.1), (4, .int q19.1)]) hx hb dX7_seat_45 hl (by decide) rfl (fun ls hl => ?_)
                refine lv_aload_n hx hb dX7_seat_47 rfl (lv_at hl 2 rfl) ?_
                refine va_get (D := D) (ci := 7) (v := .ref (a0 0)) (C := RX7) (T := TX7) (N := 3) hx hb hts hinX7 hown hK hP 0 rfl rfl 0 (by decide) (hts (.fieldLink RX7 9 "KneeBench$Seats" "least" "[I") (List.mem_of_getElem? (i := 1) rfl)) (fun _ h9 => h9) rfl dX7_seat_48 ?_
                refine lv_iload_n hx hb dX7_seat_51 rfl (lv_at hl 4 rfl) ?_
                refine lv_bipush (v := 8) hx hb dX7_seat_52 (by decide) ?_
                refine lv_imul hx hb dX7_seat_54 ?_
                refine lv_iload hx hb dX7_seat_55 (lv_at hl 5 rfl) ?_
                refine lv_iadd hx hb dX7_seat_57 ?_
                refine lv_aload_n hx hb dX7_seat_58 rfl (lv_at hl 2 rfl) ?_
                refine lv_aload_n hx hb dX7_seat_59 rfl (lv_at hl 3 rfl) ?_
                refine lv_iload hx hb dX7_seat_60 (lv_at hl 5 rfl) ?_
                refine lv_iload hx hb dX7_seat_62 (lv_at hl 0 rfl) ?_
                refine lv_aload_n hx hb dX7_seat_64 rfl (lv_at hl 2 rfl) ?_
                refine lv_aload_n hx hb dX7_seat_65 rfl (lv_at hl 3 rfl) ?_
                refine lv_iload hx hb dX7_seat_66 (lv_at hl 5 rfl) ?_
                refine lv_iload hx hb dX7_seat_68 (lv_at hl 0 rfl) ?_
                obtain ⟨r6, hr6, h⟩ := bd_elim h
                refine ca_i (w' := [WX7 cy h0 a0 q19.2, WX0 cy h_p1 a1 s1]) (rn_V (As := [.ref h_p1, .int q19.1, .int x5]) (rest := [.int x5, .int q19.1, .ref h_p1, .ref h0, .int ((q11.1 * (8 : Int32)) + q19.1), .ref (a0 0)]) ⟨hx, hb, hml, hown, hts⟩ (kX7_cheapest l D cy h0 h_p1 a0 a1 q19.2 s1 q19.1 x5 r6 hr6 H.size) (cwV 3 hts gX7_seat_X7_cheapest rfl rfl rfl (by decide +kernel) ⟨Nat.le_of_ble_eq_true rfl, Nat.le_of_ble_eq_true rfl⟩) hK hN hP hD [0, 1] rfl rfl (ci := 7) (q0 := 0) rfl rfl rfl rfl hl.1 rfl (Nat.le_of_ble_eq_true rfl) dX7_seat_70 ⟨Nat.le_refl 0, Nat.le_refl 0⟩) hP hD hS hA [0, 1] ⟨rfl, rfl, rfl, rfl⟩ (fun H locs hP hD hS => ?_)
                obtain ⟨r7, hr7, h⟩ := bd_elim h
                refine ca_i (w' := [WX7 cy h0 a0 q19.2, WX0 cy h_p1 a1 s1]) (rn_V (As := [.ref h_p1, .int q19.1, .int x5, .int r6]) (rest := [.int ((q11.1 * (8 : Int32)) + q19.1), .ref (a0 0)]) ⟨hx, hb, hml, hown, hts⟩ (kX7_cost l D cy h0 h_p1 a0 a1 q19.2 s1 q19.1 x5 r6 r7 hr7 H.size) (cwV 4 hts gX7_seat_X7_cost rfl rfl rfl (by decide +kernel) ⟨Nat.le_of_ble_eq_true rfl, Nat.le_of_ble_eq_true rfl⟩) hK hN hP hD [0, 1] rfl rfl (ci := 7) (q0 := 0) rfl rfl rfl rfl hl.1 rfl (Nat.le_of_ble_eq_true rfl) dX7_seat_73 ⟨Nat.le_refl 0, Nat.le_refl 0⟩) hP hD hS hA [0, 1] ⟨rfl, rfl, rfl, rfl⟩ (fun H locs hP hD hS => ?_)
                obtain ⟨g8, h⟩ := gd_elim h
                obtain ⟨s0_9, es, h⟩ := lt_elim h
                refine va_iast hx hb hK hP hD hS 1 1 rfl rfl (inb_in g8) dX7_seat_76 (fun H locs hP hD hS => ?_)
                have hP : va_P D vwCl (flat [WX7 cy h0 a0 s0_9, WX0 cy h_p1 a1 s1]) H := by rw [es]; exact hP
                have hD : va_D A (flat [WX7 cy h0 a0 s0_9, WX0 cy h_p1 a1 s1]) := by rw [es]; exact hD
                clear es
                refine lv_iinc (v := (q19.1 + (1 : Int32))) (lv' := [(4, .int (q19.1 + (1 : Int32))), (5, .int x5), (2, .int x1), (0, .ref h0), (1, .ref h_p1), (3, .int q11.1)]) hx hb dX7_seat_77 hl (k := 5) rfl rfl (by decide) rfl (fun ls hl => ?_)
                refine lv_goto (tgt := 19) hx hb dX7_seat_80 (by decide) ?_
                exact ih _ o (hgo _ (Option.some.inj h).symm) H locs ls (lv_sub hl [2, 3, 4, 5, 0] rfl) hP hD hS kk83
        obtain ⟨o19, ho19, h⟩ := bd_elim h
        obtain ⟨n19, hn19⟩ := loopF_some ho19
        refine L19 n19 _ o19 hn19 H locs ls (lv_sub hl [1, 2, 3, 4, 0] rfl) hP hD hS (fun H locs ls hl hP hD hS => ?_)
        refine lv_iinc (v := (q11.1 + (1 : Int32))) (lv' := [(3, .int (q11.1 + (1 : Int32))), (2, .int x1), (0, .ref h0), (1, .ref h_p1)]) hx hb dX7_seat_83 hl (k := 3) rfl rfl (by decide) rfl (fun ls hl => ?_)
        refine lv_goto (tgt := 11) hx hb dX7_seat_86 (by decide) ?_
        exact ih _ o (hgo _ (Option.some.inj h).symm) H locs ls (lv_sub hl [1, 2, 3, 0] rfl) hP hD hS kk89
  obtain ⟨o11, ho11, h⟩ := bd_elim h
  obtain ⟨n11, hn11⟩ := loopF_some ho11
  refine L11 n11 _ o11 hn11 H locs ls (lv_sub hl [1, 2, 3, 0] rfl) hP hD hS (fun H locs ls hl hP hD hS => ?_)
  refine lv_aload_n hx hb dX7_seat_89 rfl (lv_at hl 1 rfl) ?_
  refine lv_aload_n hx hb dX7_seat_90 rfl (lv_at hl 2 rfl) ?_
  refine lv_iload_n hx hb dX7_seat_91 rfl (lv_at hl 0 rfl) ?_
  obtain ⟨r10, hr10, h⟩ := bd_elim h
  refine ca_i (w' := [WX7 cy h0 a0 r10.2, WX0 cy h_p1 a1 s1]) (rn_V (As := [.ref h_p1, .int x1]) (rest := []) ⟨hx, hb, hml, hown, hts⟩ (kX7_sitDown l D cy h0 h_p1 a0 a1 o11 s1 x1 r10 hr10 H.size) (cwV 2 hts gX7_seat_X7_sitDown rfl rfl rfl (by decide +kernel) ⟨Nat.le_of_ble_eq_true rfl, Nat.le_of_ble_eq_true rfl⟩) hK hN hP hD [0, 1] rfl rfl (ci := 7) (q0 := 0) rfl rfl rfl rfl hl.1 rfl (Nat.le_of_ble_eq_true rfl) dX7_seat_92 ⟨Nat.le_refl 0, Nat.le_refl 0⟩) hP hD hS hA [0, 1] ⟨rfl, rfl, rfl, rfl⟩ (fun H locs hP hD hS => ?_)
  exact hret 95 H locs ls (r10.1, r10.2) (Option.some.inj h) hP hD hS dX7_seat_95
theorem dX8_append_0 : decode cX8_append 0 = .ok (.bipush 24, 2) := by decide +kernel
theorem dX8_append_2 : decode cX8_append 2 = .ok (.istore_n 2, 1) := by decide +kernel
theorem dX8_append_3 : decode cX8_append 3 = .ok (.iload_n 2, 1) := by decide +kernel
theorem dX8_append_4 : decode cX8_append 4 = .ok (.ifCond .lt 42, 3) := by decide +kernel
theorem dX8_append_7 : decode cX8_append 7 = .ok (.aload_n 0, 1) := by decide +kernel
theorem dX8_append_8 : decode cX8_append 8 = .ok (.getfield 19, 3) := by decide +kernel
theorem dX8_append_11 : decode cX8_append 11 = .ok (.sipush 900, 3) := by decide +kernel
theorem dX8_append_14 : decode cX8_append 14 = .ok (.if_icmp .ge 32, 3) := by decide +kernel
theorem dX8_append_17 : decode cX8_append 17 = .ok (.aload_n 0, 1) := by decide +kernel
theorem dX8_append_18 : decode cX8_append 18 = .ok (.getfield 9, 3) := by decide +kernel
theorem dX8_append_21 : decode cX8_append 21 = .ok (.aload_n 0, 1) := by decide +kernel
theorem dX8_append_22 : decode cX8_append 22 = .ok (.getfield 19, 3) := by decide +kernel
theorem dX8_append_25 : decode cX8_append 25 = .ok (.iload_n 1, 1) := by decide +kernel
theorem dX8_append_26 : decode cX8_append 26 = .ok (.iload_n 2, 1) := by decide +kernel
theorem dX8_append_27 : decode cX8_append 27 = .ok (.iushr, 1) := by decide +kernel
theorem dX8_append_28 : decode cX8_append 28 = .ok (.i2b, 1) := by decide +kernel
theorem dX8_append_29 : decode cX8_append 29 = .ok (.bastore, 1) := by decide +kernel
theorem dX8_append_30 : decode cX8_append 30 = .ok (.aload_n 0, 1) := by decide +kernel
theorem dX8_append_31 : decode cX8_append 31 = .ok (.dup, 1) := by decide +kernel
theorem dX8_append_32 : decode cX8_append 32 = .ok (.getfield 19, 3) := by decide +kernel
theorem dX8_append_35 : decode cX8_append 35 = .ok (.iconst 1, 1) := by decide +kernel
theorem dX8_append_36 : decode cX8_append 36 = .ok (.iadd, 1) := by decide +kernel
theorem dX8_append_37 : decode cX8_append 37 = .ok (.putfield 19, 3) := by decide +kernel
theorem dX8_append_40 : decode cX8_append 40 = .ok (.iinc 2 (-8), 3) := by decide +kernel
theorem dX8_append_43 : decode cX8_append 43 = .ok (.goto (-40), 3) := by decide +kernel
theorem dX8_append_46 : decode cX8_append 46 = .ok (.return_, 1) := by decide +kernel
abbrev rmX8_append : Room := { frames := 0, cells := 0, slots := 0, locals := 0 }
set_option maxHeartbeats 4000000 in
set_option maxRecDepth 100000 in
theorem kX8_append (l : Launch) (D : va_G) (cy : Nat → ClassId) (h0 : Nat) (a0 : Nat → Nat) (s0 : Rc) (p1 : Int32) (res : Rc) (h : fX8_append p1 s0 = some res) : CV l D cy yX8_append wsX8_append rmX8_append [.ref h0, .int p1] (flat [WX8 cy h0 a0 s0]) (flat [WX8 cy h0 a0 res]) := by
  refine CV.of (cc := cX8_append) (maxL := 3) (by decide) rfl (Nat.le_of_ble_eq_true rfl) ?_
  intro p e s m args below meth c A QQ ls E hr
  obtain ⟨hx, hb, hml, hown, hts, hK, hN, hP, hD, hA, hl⟩ := E
  have hret : ∀ (pc : Nat) (H : Heap) (locs : List Loc) (ls : Array Slot) (u : Rc), u = res → va_P D vwCl (flat [WX8 cy h0 a0 u]) H → va_D A (flat [WX8 cy h0 a0 u]) → va_S A s.heap H locs → decode cX8_append pc = .ok (.return_, 1) → W p l e rmX8_append s m args below meth c H locs 0 0 QQ (F0 m pc ls []) := by
    intro pc H locs ls u hu hP hD hS hd; subst hu; exact hr pc H locs ls hP hD hS hd
  clear hr
  have hl : lv_has ls 3 [(0, .ref h0), (1, .int p1)] := hl
  have hinX8 : ∀ w ∈ wsX80, w ∈ wsX8_append := fun _ h => List.mem_cons_of_mem _ (List.mem_append_right _ h)
  unfold fX8_append at h
  suffices key : ∀ (H : Heap) (locs : List Loc), va_P D vwCl (flat [WX8 cy h0 a0 s0]) H → va_S A s.heap H locs → W p l e rmX8_append s m args below meth c H locs 0 0 QQ (F0 m 0 ls []) from key _ _ hP va_S.rf
  clear hP
  intro H locs hP hS
  refine lv_bipush (v := 24) hx hb dX8_append_0 (by decide) ?_
  refine lv_istore_n (lv' := [(2, .int (24 : Int32)), (0, .ref h0), (1, .int p1)]) hx hb dX8_append_2 rfl hl (by decide) rfl (fun ls hl => ?_)
  have L3 : ∀ (n : Nat) (q3 : Int32 × Rc) (o : Rc), loopO (fX8_append_L3 p1) n q3 = some o → ∀ (H : Heap) (locs : List Loc) (ls : Array Slot), lv_has ls 3 [(0, .ref h0), (1, .int p1), (2, .int q3.1)] → va_P D vwCl (flat [WX8 cy h0 a0 q3.2]) H → va_D A (flat [WX8 cy h0 a0 q3.2]) → va_S A s.heap H locs → ∀ (kk46 : ∀ (H : Heap) (locs : List Loc) (ls : Array Slot), lv_has ls 3 [] → va_P D vwCl (flat [WX8 cy h0 a0 o]) H → va_D A (flat [WX8 cy h0 a0 o]) → va_S A s.heap H locs → W p l e rmX8_append s m args below meth c H locs 0 0 QQ (F0 m 46 ls [])), W p l e rmX8_append s m args below meth c H locs 0 0 QQ (F0 m 3 ls []) := by
    intro n
    induction n with
    | zero => intro q3 o h; exact absurd h (by rw [loopO_zero]; intro z; cases z)
    | succ n ih =>
      intro q3 o h H locs ls hl hP hD hS kk46
      obtain ⟨w, h, hgo, hst⟩ := loopO_elim h
      unfold fX8_append_L3 at h
      refine lv_iload_n hx hb dX8_append_3 rfl (lv_at hl 2 rfl) ?_
      refine lv_if_lt (tgt := 46) hx hb dX8_append_4 (by decide) (fun c1 => ?_) (fun c1 => ?_)
      · replace h := (if_pos c1).symm.trans h
        have eo := hst _ (Option.some.inj h).symm
        subst eo
        exact kk46 H locs ls (lv_sub hl [] rfl) hP hD hS
      · replace h := (if_neg c1).symm.trans h
        refine lv_aload_n hx hb dX8_append_7 rfl (lv_at hl 0 rfl) ?_
        refine va_get (D := D) (ci := 8) (v := .int (gi q3.2 2)) (C := RX8) (T := TX8) (N := 14) hx hb hts hinX8 hown hK hP 0 rfl rfl 2 (by decide) (hts (.fieldLink RX8 19 "KneeBench$Tokens" "filled" "I") (List.mem_of_getElem? (i := 1) rfl)) (fun _ h9 => h9) rfl dX8_append_8 ?_
        refine lv_sipush (v := 900) hx hb dX8_append_11 (by decide) ?_
        refine lv_icmp_ge (tgt := 46) hx hb dX8_append_14 (by decide) (fun c2 => ?_) (fun c2 => ?_)
        · replace h := (if_pos c2).symm.trans h
          have eo := hst _ (Option.some.inj h).symm
          subst eo
          exact kk46 H locs ls (lv_sub hl [] rfl) hP hD hS
        · replace h := (if_neg c2).symm.trans h
          refine lv_aload_n hx hb dX8_append_17 rfl (lv_at hl 0 rfl) ?_
          refine va_get (D := D) (ci := 8) (v := .ref (a0 0)) (C := RX8) (T := TX8) (N := 14) hx hb hts hinX8 hown hK hP 0 rfl rfl 0 (by decide) (hts (.fieldLink RX8 9 "KneeBench$Tokens" "tape" "[B") (List.mem_of_getElem? (i := 2) rfl)) (fun _ h9 => h9) rfl dX8_append_18 ?_
          refine lv_aload_n hx hb dX8_append_21 rfl (lv_at hl 0 rfl) ?_
          refine va_get (D := D) (ci := 8) (v := .int (gi q3.2 2)) (C := RX8) (T := TX8) (N := 14) hx hb hts hinX8 hown hK hP 0 rfl rfl 2 (by decide) (hts (.fieldLink RX8 19 "KneeBench$Tokens" "filled" "I") (List.mem_of_getElem? (i := 1) rfl)) (fun _ h9 => h9) rfl dX8_append_22 ?_
          refine lv_iload_n hx hb dX8_append_25 rfl (lv_at hl 1 rfl) ?_
          refine lv_iload_n hx hb dX8_append_26 rfl (lv_at hl 2 rfl) ?_
          refine lv_iushr hx hb dX8_append_27 rfl ?_
          refine lv_i2b hx hb dX8_append_28 rfl ?_
          obtain ⟨g3, h⟩ := gd_elim h
          obtain ⟨s0_4, es, h⟩ := lt_elim h
          refine va_bast hx hb hK hP hD hS 1 0 rfl rfl (inb_in g3) dX8_append_29 (fun H locs hP hD hS => ?_)
          have hP : va_P D vwCl (flat [WX8 cy h0 a0 s0_4]) H := by rw [es]; exact hP
          have hD : va_D A (flat [WX8 cy h0 a0 s0_4]) := by rw [es]; exact hD
          clear es
          refine lv_aload_n hx hb dX8_append_30 rfl (lv_at hl 0 rfl) ?_
          refine lv_dup hx hb dX8_append_31 rfl ?_
          refine va_get (D := D) (ci := 8) (v := .int (gi s0_4 2)) (C := RX8) (T := TX8) (N := 14) hx hb hts hinX8 hown hK hP 0 rfl rfl 2 (by decide) (hts (.fieldLink RX8 19 "KneeBench$Tokens" "filled" "I") (List.mem_of_getElem? (i := 1) rfl)) (fun _ h9 => h9) rfl dX8_append_32 ?_
          refine lv_iconst (v := 1) hx hb dX8_append_35 (by decide) ?_
          refine lv_iadd hx hb dX8_append_36 ?_
          obtain ⟨s0_5, es, h⟩ := lt_elim h
          refine va_put (D := D) (ci := 8) (v := .int ((gi s0_4 2) + (1 : Int32))) (ty := .int) (C := RX8) (T := TX8) (N := 14) hx hb hts hinX8 tyX8 tyX8_ok nmX8 hown hK hP hD hS 0 rfl rfl 2 (by decide) (hts (.fieldLink RX8 19 "KneeBench$Tokens" "filled" "I") (List.mem_of_getElem? (i := 1) rfl)) (fun _ h9 => h9) rfl (by decide +kernel) rfl rfl (Nat.le_of_ble_eq_true rfl) dX8_append_37 (fun H locs hP hD hS => ?_)
          have hP : va_P D vwCl (flat [WX8 cy h0 a0 s0_5]) H := by rw [es]; exact hP
          have hD : va_D A (flat [WX8 cy h0 a0 s0_5]) := by rw [es]; exact hD
          clear es
          refine lv_iinc (v := (q3.1 + (-8 : Int32))) (lv' := [(2, .int (q3.1 + (-8 : Int32))), (0, .ref h0), (1, .int p1)]) hx hb dX8_append_40 hl (k := 2) rfl rfl (by decide) rfl (fun ls hl => ?_)
          refine lv_goto (tgt := 3) hx hb dX8_append_43 (by decide) ?_
          exact ih _ o (hgo _ (Option.some.inj h).symm) H locs ls (lv_sub hl [1, 2, 0] rfl) hP hD hS kk46
  obtain ⟨o3, ho3, h⟩ := bd_elim h
  obtain ⟨n3, hn3⟩ := loopF_some ho3
  refine L3 n3 _ o3 hn3 H locs ls (lv_sub hl [1, 2, 0] rfl) hP hD hS (fun H locs ls hl hP hD hS => ?_)
  exact hret 46 H locs ls o3 (Option.some.inj h) hP hD hS dX8_append_46
theorem dX9_at_0 : decode cX9_at 0 = .ok (.aload_n 0, 1) := by decide +kernel
theorem dX9_at_1 : decode cX9_at 1 = .ok (.getfield 9, 3) := by decide +kernel
theorem dX9_at_4 : decode cX9_at 4 = .ok (.iload_n 1, 1) := by decide +kernel
theorem dX9_at_5 : decode cX9_at 5 = .ok (.bipush 60, 2) := by decide +kernel
theorem dX9_at_7 : decode cX9_at 7 = .ok (.imul, 1) := by decide +kernel
theorem dX9_at_8 : decode cX9_at 8 = .ok (.iload_n 2, 1) := by decide +kernel
theorem dX9_at_9 : decode cX9_at 9 = .ok (.iadd, 1) := by decide +kernel
theorem dX9_at_10 : decode cX9_at 10 = .ok (.laload, 1) := by decide +kernel
theorem dX9_at_11 : decode cX9_at 11 = .ok (.lreturn, 1) := by decide +kernel
abbrev rmX9_at : Room := { frames := 0, cells := 0, slots := 0, locals := 0 }
set_option maxHeartbeats 4000000 in
set_option maxRecDepth 100000 in
theorem kX9_at (l : Launch) (D : va_G) (cy : Nat → ClassId) (h0 : Nat) (a0 : Nat → Nat) (s0 : Rc) (p1 : Int32) (p2 : Int32) (res : Int64) (h : fX9_at p1 p2 s0 = some res) : CL l D cy yX9_at wsX9_at rmX9_at [.ref h0, .int p1, .int p2] (flat [WX9 cy h0 a0 s0]) (flat [WX9 cy h0 a0 s0]) res := by
  refine CL.of (cc := cX9_at) (maxL := 3) (by decide) rfl (Nat.le_of_ble_eq_true rfl) ?_
  intro p e s m args below meth c A QQ ls E hr
  obtain ⟨hx, hb, hml, hown, hts, hK, hN, hP, hD, hA, hl⟩ := E
  have hret : ∀ (pc : Nat) (H : Heap) (locs : List Loc) (ls : Array Slot) (u : Int64), u = res → va_P D vwCl (flat [WX9 cy h0 a0 s0]) H → va_D A (flat [WX9 cy h0 a0 s0]) → va_S A s.heap H locs → decode cX9_at pc = .ok (.lreturn, 1) → W p l e rmX9_at s m args below meth c H locs 0 0 QQ (F0 m pc ls [.long u]) := by
    intro pc H locs ls u hu hP hD hS hd; subst hu; exact hr pc H locs ls _ rfl hP hD hS hd
  clear hr
  have hl : lv_has ls 3 [(0, .ref h0), (1, .int p1), (2, .int p2)] := hl
  have hinX9 : ∀ w ∈ wsX90, w ∈ wsX9_at := fun _ h => List.mem_cons_of_mem _ (List.mem_append_right _ h)
  unfold fX9_at at h
  suffices key : ∀ (H : Heap) (locs : List Loc), va_P D vwCl (flat [WX9 cy h0 a0 s0]) H → va_S A s.heap H locs → W p l e rmX9_at s m args below meth c H locs 0 0 QQ (F0 m 0 ls []) from key _ _ hP va_S.rf
  clear hP
  intro H locs hP hS
  refine lv_aload_n hx hb dX9_at_0 rfl (lv_at hl 0 rfl) ?_
  refine va_get (D := D) (ci := 9) (v := .ref (a0 0)) (C := RX9) (T := TX9) (N := 3) hx hb hts hinX9 hown hK hP 0 rfl rfl 0 (by decide) (hts (.fieldLink RX9 9 "KneeBench$Trays" "numbers" "[J") (List.mem_of_getElem? (i := 1) rfl)) (fun _ h9 => h9) rfl dX9_at_1 ?_
  refine lv_iload_n hx hb dX9_at_4 rfl (lv_at hl 1 rfl) ?_
  refine lv_bipush (v := 60) hx hb dX9_at_5 (by decide) ?_
  refine lv_imul hx hb dX9_at_7 ?_
  refine lv_iload_n hx hb dX9_at_8 rfl (lv_at hl 2 rfl) ?_
  refine lv_iadd hx hb dX9_at_9 ?_
  obtain ⟨g1, h⟩ := gd_elim h
  refine va_lald hx hb hK hP 1 2 rfl rfl (inb_in g1) dX9_at_10 ?_
  exact hret 11 H locs ls (gb s0 0 ((p1 * (60 : Int32)) + p2).toNatClampNeg) (Option.some.inj h) hP hD hS dX9_at_11
theorem dX9_cut_0 : decode cX9_cut 0 = .ok (.iload_n 0, 1) := by decide +kernel
theorem dX9_cut_1 : decode cX9_cut 1 = .ok (.tableswitch 41 0 2 #[27, 32, 37], 27) := by decide +kernel
theorem dX9_cut_28 : decode cX9_cut 28 = .ok (.lload_n 1, 1) := by decide +kernel
theorem dX9_cut_29 : decode cX9_cut 29 = .ok (.l2i, 1) := by decide +kernel
theorem dX9_cut_30 : decode cX9_cut 30 = .ok (.i2b, 1) := by decide +kernel
theorem dX9_cut_31 : decode cX9_cut 31 = .ok (.i2l, 1) := by decide +kernel
theorem dX9_cut_32 : decode cX9_cut 32 = .ok (.lreturn, 1) := by decide +kernel
theorem dX9_cut_33 : decode cX9_cut 33 = .ok (.lload_n 1, 1) := by decide +kernel
theorem dX9_cut_34 : decode cX9_cut 34 = .ok (.l2i, 1) := by decide +kernel
theorem dX9_cut_35 : decode cX9_cut 35 = .ok (.i2s, 1) := by decide +kernel
theorem dX9_cut_36 : decode cX9_cut 36 = .ok (.i2l, 1) := by decide +kernel
theorem dX9_cut_37 : decode cX9_cut 37 = .ok (.lreturn, 1) := by decide +kernel
theorem dX9_cut_38 : decode cX9_cut 38 = .ok (.lload_n 1, 1) := by decide +kernel
theorem dX9_cut_39 : decode cX9_cut 39 = .ok (.l2i, 1) := by decide +kernel
theorem dX9_cut_40 : decode cX9_cut 40 = .ok (.i2l, 1) := by decide +kernel
theorem dX9_cut_41 : decode cX9_cut 41 = .ok (.lreturn, 1) := by decide +kernel
theorem dX9_cut_42 : decode cX9_cut 42 = .ok (.lload_n 1, 1) := by decide +kernel
theorem dX9_cut_43 : decode cX9_cut 43 = .ok (.lreturn, 1) := by decide +kernel
abbrev rmX9_cut : Room := { frames := 0, cells := 0, slots := 0, locals := 0 }
set_option maxHeartbeats 4000000 in
set_option maxRecDepth 100000 in
theorem kX9_cut (l : Launch) (D : va_G) (cy : Nat → ClassId) (p1 : Int32) (p2 : Int64) (res : Int64) (h : fX9_cut p1 p2 = res) : CL l D cy yX9_cut wsX9_cut rmX9_cut [.int p1, .long p2] (flat []) (flat []) res := by
  refine CL.of (cc := cX9_cut) (maxL := 3) (by decide) rfl (Nat.le_of_ble_eq_true rfl) ?_
  intro p e s m args below meth c A QQ ls E hr
  obtain ⟨hx, hb, hml, hown, hts, hK, hN, hP, hD, hA, hl⟩ := E
  have hret : ∀ (pc : Nat) (H : Heap) (locs : List Loc) (ls : Array Slot) (u : Int64), u = res → va_P D vwCl (flat []) H → va_D A (flat []) → va_S A s.heap H locs → decode cX9_cut pc = .ok (.lreturn, 1) → W p l e rmX9_cut s m args below meth c H locs 0 0 QQ (F0 m pc ls [.long u]) := by
    intro pc H locs ls u hu hP hD hS hd; subst hu; exact hr pc H locs ls _ rfl hP hD hS hd
  clear hr
  have hl : lv_has ls 3 [(0, .int p1), (1, .long p2)] := hl
  unfold fX9_cut at h
  suffices key : ∀ (H : Heap) (locs : List Loc), va_P D vwCl (flat []) H → va_S A s.heap H locs → W p l e rmX9_cut s m args below meth c H locs 0 0 QQ (F0 m 0 ls []) from key _ _ hP va_S.rf
  clear hP
  intro H locs hP hS
  refine lv_iload_n hx hb dX9_cut_0 rfl (lv_at hl 0 rfl) ?_
  by_cases c1 : p1 = (0 : Int32)
  · replace h := (if_pos c1).symm.trans h
    refine lv_tableIn (tgt := 28) hx hb dX9_cut_1 (by rw [c1]; decide) (by rw [c1]; decide) (by rw [c1]; rfl) (by decide) ?_
    refine lv_lload_n hx hb dX9_cut_28 rfl (lv_at hl 1 rfl) ?_
    refine lv_l2i hx hb dX9_cut_29 rfl ?_
    refine lv_i2b hx hb dX9_cut_30 rfl ?_
    refine lv_i2l hx hb dX9_cut_31 rfl ?_
    exact hret 32 H locs ls p2.toInt32.toInt8.toInt32.toInt64 h hP hD hS dX9_cut_32
  replace h := (if_neg c1).symm.trans h
  by_cases c2 : p1 = (1 : Int32)
  · replace h := (if_pos c2).symm.trans h
    refine lv_tableIn (tgt := 33) hx hb dX9_cut_1 (by rw [c2]; decide) (by rw [c2]; decide) (by rw [c2]; rfl) (by decide) ?_
    refine lv_lload_n hx hb dX9_cut_33 rfl (lv_at hl 1 rfl) ?_
    refine lv_l2i hx hb dX9_cut_34 rfl ?_
    refine lv_i2s hx hb dX9_cut_35 rfl ?_
    refine lv_i2l hx hb dX9_cut_36 rfl ?_
    exact hret 37 H locs ls p2.toInt32.toInt16.toInt32.toInt64 h hP hD hS dX9_cut_37
  replace h := (if_neg c2).symm.trans h
  by_cases c3 : p1 = (2 : Int32)
  · replace h := (if_pos c3).symm.trans h
    refine lv_tableIn (tgt := 38) hx hb dX9_cut_1 (by rw [c3]; decide) (by rw [c3]; decide) (by rw [c3]; rfl) (by decide) ?_
    refine lv_lload_n hx hb dX9_cut_38 rfl (lv_at hl 1 rfl) ?_
    refine lv_l2i hx hb dX9_cut_39 rfl ?_
    refine lv_i2l hx hb dX9_cut_40 rfl ?_
    exact hret 41 H locs ls p2.toInt32.toInt64 h hP hD hS dX9_cut_41
  replace h := (if_neg c3).symm.trans h
  have ic1 : p1.toInt ≠ 0 := fun z => c1 (Int32.toInt_inj.mp (z.trans (by decide)))
  have ic2 : p1.toInt ≠ 1 := fun z => c2 (Int32.toInt_inj.mp (z.trans (by decide)))
  have ic3 : p1.toInt ≠ 2 := fun z => c3 (Int32.toInt_inj.mp (z.trans (by decide)))
  have hsw : p1.toInt < 0 ∨ 2 < p1.toInt := by omega
  refine lv_tdf (tgt := 42) hx hb dX9_cut_1 ?_ (by decide) ?_
  · rcases hsw with z | z
    · exact Or.inl z
    · exact Or.inr (Or.inl z)
  refine lv_lload_n hx hb dX9_cut_42 rfl (lv_at hl 1 rfl) ?_
  exact hret 43 H locs ls p2 h hP hD hS dX9_cut_43
theorem dX9_hasPlaces_0 : decode cX9_hasPlaces 0 = .ok (.iload_n 2, 1) := by decide +kernel
theorem dX9_hasPlaces_1 : decode cX9_hasPlaces 1 = .ok (.ifCond .lt 29, 3) := by decide +kernel
theorem dX9_hasPlaces_4 : decode cX9_hasPlaces 4 = .ok (.iload_n 2, 1) := by decide +kernel
theorem dX9_hasPlaces_5 : decode cX9_hasPlaces 5 = .ok (.aload_n 0, 1) := by decide +kernel
theorem dX9_hasPlaces_6 : decode cX9_hasPlaces 6 = .ok (.getfield 19, 3) := by decide +kernel
theorem dX9_hasPlaces_9 : decode cX9_hasPlaces 9 = .ok (.iload_n 1, 1) := by decide +kernel
theorem dX9_hasPlaces_10 : decode cX9_hasPlaces 10 = .ok (.iaload, 1) := by decide +kernel
theorem dX9_hasPlaces_11 : decode cX9_hasPlaces 11 = .ok (.if_icmp .gt 19, 3) := by decide +kernel
theorem dX9_hasPlaces_14 : decode cX9_hasPlaces 14 = .ok (.iload_n 3, 1) := by decide +kernel
theorem dX9_hasPlaces_15 : decode cX9_hasPlaces 15 = .ok (.aload_n 0, 1) := by decide +kernel
theorem dX9_hasPlaces_16 : decode cX9_hasPlaces 16 = .ok (.getfield 19, 3) := by decide +kernel
theorem dX9_hasPlaces_19 : decode cX9_hasPlaces 19 = .ok (.iload_n 1, 1) := by decide +kernel
theorem dX9_hasPlaces_20 : decode cX9_hasPlaces 20 = .ok (.iaload, 1) := by decide +kernel
theorem dX9_hasPlaces_21 : decode cX9_hasPlaces 21 = .ok (.iload_n 2, 1) := by decide +kernel
theorem dX9_hasPlaces_22 : decode cX9_hasPlaces 22 = .ok (.isub, 1) := by decide +kernel
theorem dX9_hasPlaces_23 : decode cX9_hasPlaces 23 = .ok (.if_icmp .gt 7, 3) := by decide +kernel
theorem dX9_hasPlaces_26 : decode cX9_hasPlaces 26 = .ok (.iconst 1, 1) := by decide +kernel
theorem dX9_hasPlaces_27 : decode cX9_hasPlaces 27 = .ok (.goto 4, 3) := by decide +kernel
theorem dX9_hasPlaces_30 : decode cX9_hasPlaces 30 = .ok (.iconst 0, 1) := by decide +kernel
theorem dX9_hasPlaces_31 : decode cX9_hasPlaces 31 = .ok (.ireturn, 1) := by decide +kernel
abbrev rmX9_hasPlaces : Room := { frames := 0, cells := 0, slots := 0, locals := 0 }
set_option maxHeartbeats 4000000 in
set_option maxRecDepth 100000 in
theorem kX9_hasPlaces (l : Launch) (D : va_G) (cy : Nat → ClassId) (h0 : Nat) (a0 : Nat → Nat) (s0 : Rc) (p1 : Int32) (p2 : Int32) (p3 : Int32) (res : Int32) (h : fX9_hasPlaces p1 p2 p3 s0 = some res) : CZ l D cy yX9_hasPlaces wsX9_hasPlaces rmX9_hasPlaces [.ref h0, .int p1, .int p2, .int p3] (flat [WX9 cy h0 a0 s0]) (flat [WX9 cy h0 a0 s0]) res := by
  refine CZ.of (cc := cX9_hasPlaces) (maxL := 4) (by decide) rfl (Nat.le_of_ble_eq_true rfl) ?_
  intro p e s m args below meth c A QQ ls E hr
  obtain ⟨hx, hb, hml, hown, hts, hK, hN, hP, hD, hA, hl⟩ := E
  have hret : ∀ (pc : Nat) (H : Heap) (locs : List Loc) (ls : Array Slot) (u : Int32), u = res → va_P D vwCl (flat [WX9 cy h0 a0 s0]) H → va_D A (flat [WX9 cy h0 a0 s0]) → va_S A s.heap H locs → isb u = true → decode cX9_hasPlaces pc = .ok (.ireturn, 1) → W p l e rmX9_hasPlaces s m args below meth c H locs 0 0 QQ (F0 m pc ls [.int u]) := by
    intro pc H locs ls u hu hP hD hS hz hd; subst hu; exact hr pc H locs ls _ rfl hP hD hS hz hd
  clear hr
  have hl : lv_has ls 4 [(0, .ref h0), (1, .int p1), (2, .int p2), (3, .int p3)] := hl
  have hinX9 : ∀ w ∈ wsX90, w ∈ wsX9_hasPlaces := fun _ h => List.mem_cons_of_mem _ (List.mem_append_right _ h)
  unfold fX9_hasPlaces at h
  suffices key : ∀ (H : Heap) (locs : List Loc), va_P D vwCl (flat [WX9 cy h0 a0 s0]) H → va_S A s.heap H locs → W p l e rmX9_hasPlaces s m args below meth c H locs 0 0 QQ (F0 m 0 ls []) from key _ _ hP va_S.rf
  clear hP
  intro H locs hP hS
  refine lv_iload_n hx hb dX9_hasPlaces_0 rfl (lv_at hl 2 rfl) ?_
  refine lv_if_lt (tgt := 30) hx hb dX9_hasPlaces_1 (by decide) (fun c1 => ?_) (fun c1 => ?_)
  · replace h := (if_pos c1).symm.trans h
    refine lv_iconst (v := 0) hx hb dX9_hasPlaces_30 (by decide) ?_
    exact hret 31 H locs ls (0 : Int32) (Option.some.inj h) hP hD hS (show isb (0 : Int32) = true by decide) dX9_hasPlaces_31
  · replace h := (if_neg c1).symm.trans h
    refine lv_iload_n hx hb dX9_hasPlaces_4 rfl (lv_at hl 2 rfl) ?_
    refine lv_aload_n hx hb dX9_hasPlaces_5 rfl (lv_at hl 0 rfl) ?_
    refine va_get (D := D) (ci := 9) (v := .ref (a0 2)) (C := RX9) (T := TX9) (N := 3) hx hb hts hinX9 hown hK hP 0 rfl rfl 2 (by decide) (hts (.fieldLink RX9 19 "KneeBench$Trays" "sizes" "[I") (List.mem_of_getElem? (i := 1) rfl)) (fun _ h9 => h9) rfl dX9_hasPlaces_6 ?_
    refine lv_iload_n hx hb dX9_hasPlaces_9 rfl (lv_at hl 1 rfl) ?_
    obtain ⟨g2, h⟩ := gd_elim h
    refine va_iald hx hb hK hP 3 1 rfl rfl (inb_in g2) dX9_hasPlaces_10 ?_
    refine lv_icmp_gt (tgt := 30) hx hb dX9_hasPlaces_11 (by decide) (fun c3 => ?_) (fun c3 => ?_)
    · replace h := (if_pos c3).symm.trans h
      refine lv_iconst (v := 0) hx hb dX9_hasPlaces_30 (by decide) ?_
      exact hret 31 H locs ls (0 : Int32) (Option.some.inj h) hP hD hS (show isb (0 : Int32) = true by decide) dX9_hasPlaces_31
    · replace h := (if_neg c3).symm.trans h
      refine lv_iload_n hx hb dX9_hasPlaces_14 rfl (lv_at hl 3 rfl) ?_
      refine lv_aload_n hx hb dX9_hasPlaces_15 rfl (lv_at hl 0 rfl) ?_
      refine va_get (D := D) (ci := 9) (v := .ref (a0 2)) (C := RX9) (T := TX9) (N := 3) hx hb hts hinX9 hown hK hP 0 rfl rfl 2 (by decide) (hts (.fieldLink RX9 19 "KneeBench$Trays" "sizes" "[I") (List.mem_of_getElem? (i := 1) rfl)) (fun _ h9 => h9) rfl dX9_hasPlaces_16 ?_
      refine lv_iload_n hx hb dX9_hasPlaces_19 rfl (lv_at hl 1 rfl) ?_
      refine va_iald hx hb hK hP 3 1 rfl rfl (inb_in g2) dX9_hasPlaces_20 ?_
      refine lv_iload_n hx hb dX9_hasPlaces_21 rfl (lv_at hl 2 rfl) ?_
      refine lv_isub hx hb dX9_hasPlaces_22 ?_
      refine lv_icmp_gt (tgt := 30) hx hb dX9_hasPlaces_23 (by decide) (fun c4 => ?_) (fun c4 => ?_)
      · replace h := (if_pos c4).symm.trans h
        refine lv_iconst (v := 0) hx hb dX9_hasPlaces_30 (by decide) ?_
        exact hret 31 H locs ls (0 : Int32) (Option.some.inj h) hP hD hS (show isb (0 : Int32) = true by decide) dX9_hasPlaces_31
      · replace h := (if_neg c4).symm.trans h
        refine lv_iconst (v := 1) hx hb dX9_hasPlaces_26 (by decide) ?_
        refine lv_goto (tgt := 31) hx hb dX9_hasPlaces_27 (by decide) ?_
        exact hret 31 H locs ls (1 : Int32) (Option.some.inj h) hP hD hS (show isb (1 : Int32) = true by decide) dX9_hasPlaces_31
theorem dX9_isMissing_0 : decode cX9_isMissing 0 = .ok (.aload_n 0, 1) := by decide +kernel
theorem dX9_isMissing_1 : decode cX9_isMissing 1 = .ok (.getfield 19, 3) := by decide +kernel
theorem dX9_isMissing_4 : decode cX9_isMissing 4 = .ok (.iload_n 1, 1) := by decide +kernel
theorem dX9_isMissing_5 : decode cX9_isMissing 5 = .ok (.iaload, 1) := by decide +kernel
theorem dX9_isMissing_6 : decode cX9_isMissing 6 = .ok (.iconst (-1), 1) := by decide +kernel
theorem dX9_isMissing_7 : decode cX9_isMissing 7 = .ok (.if_icmp .ne 7, 3) := by decide +kernel
theorem dX9_isMissing_10 : decode cX9_isMissing 10 = .ok (.iconst 1, 1) := by decide +kernel
theorem dX9_isMissing_11 : decode cX9_isMissing 11 = .ok (.goto 4, 3) := by decide +kernel
theorem dX9_isMissing_14 : decode cX9_isMissing 14 = .ok (.iconst 0, 1) := by decide +kernel
theorem dX9_isMissing_15 : decode cX9_isMissing 15 = .ok (.ireturn, 1) := by decide +kernel
abbrev rmX9_isMissing : Room := { frames := 0, cells := 0, slots := 0, locals := 0 }
set_option maxHeartbeats 4000000 in
set_option maxRecDepth 100000 in
theorem kX9_isMissing (l : Launch) (D : va_G) (cy : Nat → ClassId) (h0 : Nat) (a0 : Nat → Nat) (s0 : Rc) (p1 : Int32) (res : Int32) (h : fX9_isMissing p1 s0 = some res) : CZ l D cy yX9_isMissing wsX9_isMissing rmX9_isMissing [.ref h0, .int p1] (flat [WX9 cy h0 a0 s0]) (flat [WX9 cy h0 a0 s0]) res := by
  refine CZ.of (cc := cX9_isMissing) (maxL := 2) (by decide) rfl (Nat.le_of_ble_eq_true rfl) ?_
  intro p e s m args below meth c A QQ ls E hr
  obtain ⟨hx, hb, hml, hown, hts, hK, hN, hP, hD, hA, hl⟩ := E
  have hret : ∀ (pc : Nat) (H : Heap) (locs : List Loc) (ls : Array Slot) (u : Int32), u = res → va_P D vwCl (flat [WX9 cy h0 a0 s0]) H → va_D A (flat [WX9 cy h0 a0 s0]) → va_S A s.heap H locs → isb u = true → decode cX9_isMissing pc = .ok (.ireturn, 1) → W p l e rmX9_isMissing s m args below meth c H locs 0 0 QQ (F0 m pc ls [.int u]) := by
    intro pc H locs ls u hu hP hD hS hz hd; subst hu; exact hr pc H locs ls _ rfl hP hD hS hz hd
  clear hr
  have hl : lv_has ls 2 [(0, .ref h0), (1, .int p1)] := hl
  have hinX9 : ∀ w ∈ wsX90, w ∈ wsX9_isMissing := fun _ h => List.mem_cons_of_mem _ (List.mem_append_right _ h)
  unfold fX9_isMissing at h
  suffices key : ∀ (H : Heap) (locs : List Loc), va_P D vwCl (flat [WX9 cy h0 a0 s0]) H → va_S A s.heap H locs → W p l e rmX9_isMissing s m args below meth c H locs 0 0 QQ (F0 m 0 ls []) from key _ _ hP va_S.rf
  clear hP
  intro H locs hP hS
  refine lv_aload_n hx hb dX9_isMissing_0 rfl (lv_at hl 0 rfl) ?_
  refine va_get (D := D) (ci := 9) (v := .ref (a0 2)) (C := RX9) (T := TX9) (N := 3) hx hb hts hinX9 hown hK hP 0 rfl rfl 2 (by decide) (hts (.fieldLink RX9 19 "KneeBench$Trays" "sizes" "[I") (List.mem_of_getElem? (i := 1) rfl)) (fun _ h9 => h9) rfl dX9_isMissing_1 ?_
  refine lv_iload_n hx hb dX9_isMissing_4 rfl (lv_at hl 1 rfl) ?_
  obtain ⟨g1, h⟩ := gd_elim h
  refine va_iald hx hb hK hP 3 1 rfl rfl (inb_in g1) dX9_isMissing_5 ?_
  refine lv_iconst (v := -1) hx hb dX9_isMissing_6 (by decide) ?_
  refine lv_icmp_ne (tgt := 14) hx hb dX9_isMissing_7 (by decide) (fun c2 => ?_) (fun c2 => ?_)
  · replace h := (if_neg c2).symm.trans h
    refine lv_iconst (v := 0) hx hb dX9_isMissing_14 (by decide) ?_
    exact hret 15 H locs ls (0 : Int32) (Option.some.inj h) hP hD hS (show isb (0 : Int32) = true by decide) dX9_isMissing_15
  · replace h := (if_pos c2).symm.trans h
    refine lv_iconst (v := 1) hx hb dX9_isMissing_10 (by decide) ?_
    refine lv_goto (tgt := 15) hx hb dX9_isMissing_11 (by decide) ?_
    exact hret 15 H locs ls (1 : Int32) (Option.some.inj h) hP hD hS (show isb (1 : Int32) = true by decide) dX9_isMissing_15
theorem dX9_lay_0 : decode cX9_lay 0 = .ok (.aload_n 0, 1) := by decide +kernel
theorem dX9_lay_1 : decode cX9_lay 1 = .ok (.getfield 15, 3) := by decide +kernel
theorem dX9_lay_4 : decode cX9_lay 4 = .ok (.iload_n 1, 1) := by decide +kernel
theorem dX9_lay_5 : decode cX9_lay 5 = .ok (.iload_n 2, 1) := by decide +kernel
theorem dX9_lay_6 : decode cX9_lay 6 = .ok (.iastore, 1) := by decide +kernel
theorem dX9_lay_7 : decode cX9_lay 7 = .ok (.aload_n 0, 1) := by decide +kernel
theorem dX9_lay_8 : decode cX9_lay 8 = .ok (.getfield 19, 3) := by decide +kernel
theorem dX9_lay_11 : decode cX9_lay 11 = .ok (.iload_n 1, 1) := by decide +kernel
theorem dX9_lay_12 : decode cX9_lay 12 = .ok (.iload_n 3, 1) := by decide +kernel
theorem dX9_lay_13 : decode cX9_lay 13 = .ok (.iastore, 1) := by decide +kernel
theorem dX9_lay_14 : decode cX9_lay 14 = .ok (.iconst 0, 1) := by decide +kernel
theorem dX9_lay_15 : decode cX9_lay 15 = .ok (.istore 4, 2) := by decide +kernel
theorem dX9_lay_17 : decode cX9_lay 17 = .ok (.iload 4, 2) := by decide +kernel
theorem dX9_lay_19 : decode cX9_lay 19 = .ok (.iload_n 3, 1) := by decide +kernel
theorem dX9_lay_20 : decode cX9_lay 20 = .ok (.if_icmp .ge 22, 3) := by decide +kernel
theorem dX9_lay_23 : decode cX9_lay 23 = .ok (.aload_n 0, 1) := by decide +kernel
theorem dX9_lay_24 : decode cX9_lay 24 = .ok (.getfield 9, 3) := by decide +kernel
theorem dX9_lay_27 : decode cX9_lay 27 = .ok (.iload_n 1, 1) := by decide +kernel
theorem dX9_lay_28 : decode cX9_lay 28 = .ok (.bipush 60, 2) := by decide +kernel
theorem dX9_lay_30 : decode cX9_lay 30 = .ok (.imul, 1) := by decide +kernel
theorem dX9_lay_31 : decode cX9_lay 31 = .ok (.iload 4, 2) := by decide +kernel
theorem dX9_lay_33 : decode cX9_lay 33 = .ok (.iadd, 1) := by decide +kernel
theorem dX9_lay_34 : decode cX9_lay 34 = .ok (.lconst 0, 1) := by decide +kernel
theorem dX9_lay_35 : decode cX9_lay 35 = .ok (.lastore, 1) := by decide +kernel
theorem dX9_lay_36 : decode cX9_lay 36 = .ok (.iinc 4 1, 3) := by decide +kernel
theorem dX9_lay_39 : decode cX9_lay 39 = .ok (.goto (-22), 3) := by decide +kernel
theorem dX9_lay_42 : decode cX9_lay 42 = .ok (.return_, 1) := by decide +kernel
abbrev rmX9_lay : Room := { frames := 0, cells := 0, slots := 0, locals := 0 }
set_option maxHeartbeats 4000000 in
set_option maxRecDepth 100000 in
theorem kX9_lay (l : Launch) (D : va_G) (cy : Nat → ClassId) (h0 : Nat) (a0 : Nat → Nat) (s0 : Rc) (p1 : Int32) (p2 : Int32) (p3 : Int32) (res : Rc) (h : fX9_lay p1 p2 p3 s0 = some res) : CV l D cy yX9_lay wsX9_lay rmX9_lay [.ref h0, .int p1, .int p2, .int p3] (flat [WX9 cy h0 a0 s0]) (flat [WX9 cy h0 a0 res]) := by
  refine CV.of (cc := cX9_lay) (maxL := 5) (by decide) rfl (Nat.le_of_ble_eq_true rfl) ?_
  intro p e s m args below meth c A QQ ls E hr
  obtain ⟨hx, hb, hml, hown, hts, hK, hN, hP, hD, hA, hl⟩ := E
  have hret : ∀ (pc : Nat) (H : Heap) (locs : List Loc) (ls : Array Slot) (u : Rc), u = res → va_P D vwCl (flat [WX9 cy h0 a0 u]) H → va_D A (flat [WX9 cy h0 a0 u]) → va_S A s.heap H locs → decode cX9_lay pc = .ok (.return_, 1) → W p l e rmX9_lay s m args below meth c H locs 0 0 QQ (F0 m pc ls []) := by
    intro pc H locs ls u hu hP hD hS hd; subst hu; exact hr pc H locs ls hP hD hS hd
  clear hr
  have hl : lv_has ls 5 [(0, .ref h0), (1, .int p1), (2, .int p2), (3, .int p3)] := hl
  have hinX9 : ∀ w ∈ wsX90, w ∈ wsX9_lay := fun _ h => List.mem_cons_of_mem _ (List.mem_append_right _ h)
  unfold fX9_lay at h
  suffices key : ∀ (H : Heap) (locs : List Loc), va_P D vwCl (flat [WX9 cy h0 a0 s0]) H → va_S A s.heap H locs → W p l e rmX9_lay s m args below meth c H locs 0 0 QQ (F0 m 0 ls []) from key _ _ hP va_S.rf
  clear hP
  intro H locs hP hS
  refine lv_aload_n hx hb dX9_lay_0 rfl (lv_at hl 0 rfl) ?_
  refine va_get (D := D) (ci := 9) (v := .ref (a0 1)) (C := RX9) (T := TX9) (N := 3) hx hb hts hinX9 hown hK hP 0 rfl rfl 1 (by decide) (hts (.fieldLink RX9 15 "KneeBench$Trays" "sorts" "[I") (List.mem_of_getElem? (i := 1) rfl)) (fun _ h9 => h9) rfl dX9_lay_1 ?_
  refine lv_iload_n hx hb dX9_lay_4 rfl (lv_at hl 1 rfl) ?_
  refine lv_iload_n hx hb dX9_lay_5 rfl (lv_at hl 2 rfl) ?_
  obtain ⟨g1, h⟩ := gd_elim h
  obtain ⟨s0_2, es, h⟩ := lt_elim h
  refine va_iast hx hb hK hP hD hS 2 1 rfl rfl (inb_in g1) dX9_lay_6 (fun H locs hP hD hS => ?_)
  have hP : va_P D vwCl (flat [WX9 cy h0 a0 s0_2]) H := by rw [es]; exact hP
  have hD : va_D A (flat [WX9 cy h0 a0 s0_2]) := by rw [es]; exact hD
  clear es
  refine lv_aload_n hx hb dX9_lay_7 rfl (lv_at hl 0 rfl) ?_
  refine va_get (D := D) (ci := 9) (v := .ref (a0 2)) (C := RX9) (T := TX9) (N := 3) hx hb hts hinX9 hown hK hP 0 rfl rfl 2 (by decide) (hts (.fieldLink RX9 19 "KneeBench$Trays" "sizes" "[I") (List.mem_of_getElem? (i := 2) rfl)) (fun _ h9 => h9) rfl dX9_lay_8 ?_
  refine lv_iload_n hx hb dX9_lay_11 rfl (lv_at hl 1 rfl) ?_
  refine lv_iload_n hx hb dX9_lay_12 rfl (lv_at hl 3 rfl) ?_
  obtain ⟨s0_3, es, h⟩ := lt_elim h
  refine va_iast hx hb hK hP hD hS 3 1 rfl rfl (inb_in g1) dX9_lay_13 (fun H locs hP hD hS => ?_)
  have hP : va_P D vwCl (flat [WX9 cy h0 a0 s0_3]) H := by rw [es]; exact hP
  have hD : va_D A (flat [WX9 cy h0 a0 s0_3]) := by rw [es]; exact hD
  clear es
  refine lv_iconst (v := 0) hx hb dX9_lay_14 (by decide) ?_
  refine lv_istore (lv' := [(4, .int (0 : Int32)), (0, .ref h0), (1, .int p1), (2, .int p2), (3, .int p3)]) hx hb dX9_lay_15 hl (by decide) rfl (fun ls hl => ?_)
  have L17 : ∀ (n : Nat) (q17 : Int32 × Rc) (o : Rc), loopO (fX9_lay_L17 p1 p3) n q17 = some o → ∀ (H : Heap) (locs : List Loc) (ls : Array Slot), lv_has ls 5 [(0, .ref h0), (1, .int p1), (3, .int p3), (4, .int q17.1)] → va_P D vwCl (flat [WX9 cy h0 a0 q17.2]) H → va_D A (flat [WX9 cy h0 a0 q17.2]) → va_S A s.heap H locs → ∀ (kk42 : ∀ (H : Heap) (locs : List Loc) (ls : Array Slot), lv_has ls 5 [] → va_P D vwCl (flat [WX9 cy h0 a0 o]) H → va_D A (flat [WX9 cy h0 a0 o]) → va_S A s.heap H locs → W p l e rmX9_lay s m args below meth c H locs 0 0 QQ (F0 m 42 ls [])), W p l e rmX9_lay s m args below meth c H locs 0 0 QQ (F0 m 17 ls []) := by
    intro n
    induction n with
    | zero => intro q17 o h; exact absurd h (by rw [loopO_zero]; intro z; cases z)
    | succ n ih =>
      intro q17 o h H locs ls hl hP hD hS kk42
      obtain ⟨w, h, hgo, hst⟩ := loopO_elim h
      unfold fX9_lay_L17 at h
      refine lv_iload hx hb dX9_lay_17 (lv_at hl 3 rfl) ?_
      refine lv_iload_n hx hb dX9_lay_19 rfl (lv_at hl 2 rfl) ?_
      refine lv_icmp_ge (tgt := 42) hx hb dX9_lay_20 (by decide) (fun c4 => ?_) (fun c4 => ?_)
      · replace h := (if_pos c4).symm.trans h
        have eo := hst _ (Option.some.inj h).symm
        subst eo
        exact kk42 H locs ls (lv_sub hl [] rfl) hP hD hS
      · replace h := (if_neg c4).symm.trans h
        refine lv_aload_n hx hb dX9_lay_23 rfl (lv_at hl 0 rfl) ?_
        refine va_get (D := D) (ci := 9) (v := .ref (a0 0)) (C := RX9) (T := TX9) (N := 3) hx hb hts hinX9 hown hK hP 0 rfl rfl 0 (by decide) (hts (.fieldLink RX9 9 "KneeBench$Trays" "numbers" "[J") (List.mem_of_getElem? (i := 3) rfl)) (fun _ h9 => h9) rfl dX9_lay_24 ?_
        refine lv_iload_n hx hb dX9_lay_27 rfl (lv_at hl 1 rfl) ?_
        refine lv_bipush (v := 60) hx hb dX9_lay_28 (by decide) ?_
        refine lv_imul hx hb dX9_lay_30 ?_
        refine lv_iload hx hb dX9_lay_31 (lv_at hl 3 rfl) ?_
        refine lv_iadd hx hb dX9_lay_33 ?_
        refine lv_lconst (v := 0) hx hb dX9_lay_34 (by decide) ?_
        obtain ⟨g5, h⟩ := gd_elim h
        obtain ⟨s0_6, es, h⟩ := lt_elim h
        refine va_last hx hb hK hP hD hS 1 2 rfl rfl (inb_in g5) dX9_lay_35 (fun H locs hP hD hS => ?_)
        have hP : va_P D vwCl (flat [WX9 cy h0 a0 s0_6]) H := by rw [es]; exact hP
        have hD : va_D A (flat [WX9 cy h0 a0 s0_6]) := by rw [es]; exact hD
        clear es
        refine lv_iinc (v := (q17.1 + (1 : Int32))) (lv' := [(4, .int (q17.1 + (1 : Int32))), (0, .ref h0), (1, .int p1), (3, .int p3)]) hx hb dX9_lay_36 hl (k := 3) rfl rfl (by decide) rfl (fun ls hl => ?_)
        refine lv_goto (tgt := 17) hx hb dX9_lay_39 (by decide) ?_
        exact ih _ o (hgo _ (Option.some.inj h).symm) H locs ls (lv_sub hl [1, 2, 3, 0] rfl) hP hD hS kk42
  obtain ⟨o17, ho17, h⟩ := bd_elim h
  obtain ⟨n17, hn17⟩ := loopF_some ho17
  refine L17 n17 _ o17 hn17 H locs ls (lv_sub hl [1, 2, 4, 0] rfl) hP hD hS (fun H locs ls hl hP hD hS => ?_)
  exact hret 42 H locs ls o17 (Option.some.inj h) hP hD hS dX9_lay_42
theorem dX9_move_0 : decode cX9_move 0 = .ok (.aload_n 0, 1) := by decide +kernel
theorem dX9_move_1 : decode cX9_move 1 = .ok (.getfield 9, 3) := by decide +kernel
theorem dX9_move_4 : decode cX9_move 4 = .ok (.iload_n 1, 1) := by decide +kernel
theorem dX9_move_5 : decode cX9_move 5 = .ok (.bipush 60, 2) := by decide +kernel
theorem dX9_move_7 : decode cX9_move 7 = .ok (.imul, 1) := by decide +kernel
theorem dX9_move_8 : decode cX9_move 8 = .ok (.iload_n 2, 1) := by decide +kernel
theorem dX9_move_9 : decode cX9_move 9 = .ok (.iadd, 1) := by decide +kernel
theorem dX9_move_10 : decode cX9_move 10 = .ok (.aload_n 0, 1) := by decide +kernel
theorem dX9_move_11 : decode cX9_move 11 = .ok (.getfield 9, 3) := by decide +kernel
theorem dX9_move_14 : decode cX9_move 14 = .ok (.iload_n 3, 1) := by decide +kernel
theorem dX9_move_15 : decode cX9_move 15 = .ok (.bipush 60, 2) := by decide +kernel
theorem dX9_move_17 : decode cX9_move 17 = .ok (.imul, 1) := by decide +kernel
theorem dX9_move_18 : decode cX9_move 18 = .ok (.iload 4, 2) := by decide +kernel
theorem dX9_move_20 : decode cX9_move 20 = .ok (.iadd, 1) := by decide +kernel
theorem dX9_move_21 : decode cX9_move 21 = .ok (.iload 5, 2) := by decide +kernel
theorem dX9_move_23 : decode cX9_move 23 = .ok (.invokestatic 26, 3) := by decide +kernel
theorem dX9_move_26 : decode cX9_move 26 = .ok (.return_, 1) := by decide +kernel
abbrev rmX9_move : Room := { frames := 1, cells := 0, slots := 0, locals := 40 }
set_option maxHeartbeats 4000000 in
set_option maxRecDepth 100000 in
theorem kX9_move (l : Launch) (D : va_G) (cy : Nat → ClassId) (h0 : Nat) (a0 : Nat → Nat) (s0 : Rc) (p1 : Int32) (p2 : Int32) (p3 : Int32) (p4 : Int32) (p5 : Int32) (res : Rc) (h : fX9_move p1 p2 p3 p4 p5 s0 = some res) : CV l D cy yX9_move wsX9_move rmX9_move [.ref h0, .int p1, .int p2, .int p3, .int p4, .int p5] (flat [WX9 cy h0 a0 s0]) (flat [WX9 cy h0 a0 res]) := by
  refine CV.of (cc := cX9_move) (maxL := 6) (by decide) rfl (Nat.le_of_ble_eq_true rfl) ?_
  intro p e s m args below meth c A QQ ls E hr
  obtain ⟨hx, hb, hml, hown, hts, hK, hN, hP, hD, hA, hl⟩ := E
  have hret : ∀ (pc : Nat) (H : Heap) (locs : List Loc) (ls : Array Slot) (u : Rc), u = res → va_P D vwCl (flat [WX9 cy h0 a0 u]) H → va_D A (flat [WX9 cy h0 a0 u]) → va_S A s.heap H locs → decode cX9_move pc = .ok (.return_, 1) → W p l e rmX9_move s m args below meth c H locs 0 0 QQ (F0 m pc ls []) := by
    intro pc H locs ls u hu hP hD hS hd; subst hu; exact hr pc H locs ls hP hD hS hd
  clear hr
  have hl : lv_has ls 6 [(0, .ref h0), (1, .int p1), (2, .int p2), (3, .int p3), (4, .int p4), (5, .int p5)] := hl
  have hinX9 : ∀ w ∈ wsX90, w ∈ wsX9_move := fun _ h => List.mem_cons_of_mem _ (List.mem_append_right _ h)
  unfold fX9_move at h
  suffices key : ∀ (H : Heap) (locs : List Loc), va_P D vwCl (flat [WX9 cy h0 a0 s0]) H → va_S A s.heap H locs → W p l e rmX9_move s m args below meth c H locs 0 0 QQ (F0 m 0 ls []) from key _ _ hP va_S.rf
  clear hP
  intro H locs hP hS
  refine lv_aload_n hx hb dX9_move_0 rfl (lv_at hl 0 rfl) ?_
  refine va_get (D := D) (ci := 9) (v := .ref (a0 0)) (C := RX9) (T := TX9) (N := 3) hx hb hts hinX9 hown hK hP 0 rfl rfl 0 (by decide) (hts (.fieldLink RX9 9 "KneeBench$Trays" "numbers" "[J") (List.mem_of_getElem? (i := 1) rfl)) (fun _ h9 => h9) rfl dX9_move_1 ?_
  refine lv_iload_n hx hb dX9_move_4 rfl (lv_at hl 1 rfl) ?_
  refine lv_bipush (v := 60) hx hb dX9_move_5 (by decide) ?_
  refine lv_imul hx hb dX9_move_7 ?_
  refine lv_iload_n hx hb dX9_move_8 rfl (lv_at hl 2 rfl) ?_
  refine lv_iadd hx hb dX9_move_9 ?_
  refine lv_aload_n hx hb dX9_move_10 rfl (lv_at hl 0 rfl) ?_
  refine va_get (D := D) (ci := 9) (v := .ref (a0 0)) (C := RX9) (T := TX9) (N := 3) hx hb hts hinX9 hown hK hP 0 rfl rfl 0 (by decide) (hts (.fieldLink RX9 9 "KneeBench$Trays" "numbers" "[J") (List.mem_of_getElem? (i := 1) rfl)) (fun _ h9 => h9) rfl dX9_move_11 ?_
  refine lv_iload_n hx hb dX9_move_14 rfl (lv_at hl 3 rfl) ?_
  refine lv_bipush (v := 60) hx hb dX9_move_15 (by decide) ?_
  refine lv_imul hx hb dX9_move_17 ?_
  refine lv_iload hx hb dX9_move_18 (lv_at hl 4 rfl) ?_
  refine lv_iadd hx hb dX9_move_20 ?_
  refine lv_iload hx hb dX9_move_21 (lv_at hl 5 rfl) ?_
  obtain ⟨g1, h⟩ := gd_elim h
  obtain ⟨g2, h⟩ := gd_elim h
  obtain ⟨s0_3, es, h⟩ := lt_elim h
  refine va_copyl hx hb (hml.trans hl.1.symm) hown (hts (.methodLink RX9 26 arraycopyName) (List.mem_of_getElem? (i := 2) rfl)) (hts (.native arraycopyName) (List.mem_of_getElem? (i := 3) rfl)) (hts (.static arraycopyName) (List.mem_of_getElem? (i := 4) rfl)) (hts (.initialized "java/lang/System") (List.mem_of_getElem? (i := 5) rfl)) hK hP hD hS 1 1 2 2 rfl rfl rfl rfl rfl (cpb_1 g1) (cpb_1 g2) (cpb_2 g1) (cpb_3 g1) (cpb_3 g2) (fun _ _ => rfl) (Nat.le_of_ble_eq_true rfl) (Nat.le_of_ble_eq_true rfl) dX9_move_23 (fun H locs hP hD hS => ?_)
  have hP : va_P D vwCl (flat [WX9 cy h0 a0 s0_3]) H := by rw [es]; exact hP
  have hD : va_D A (flat [WX9 cy h0 a0 s0_3]) := by rw [es]; exact hD
  clear es
  exact hret 26 H locs ls s0_3 (Option.some.inj h) hP hD hS dX9_move_26
theorem gd_X9_put : wsX9_put.all goodWord = true := by decide +kernel
set_option maxRecDepth 20000 in
theorem ggX9_put_X9_cut : GoodIn wsX9_put wsX9_cut := goodIn_by gd_X9_put (List.forall_mem_cons.mpr ⟨List.mem_cons_of_mem _ (List.mem_append_left _ (List.mem_of_getElem? (i := 5) rfl)), nowords_in⟩)
set_option maxRecDepth 20000 in
theorem gX9_put_X9_cut : GoodIn wsX9_put (va_wsS RX9 22 yX9_cut wsX9_cut) := goodIn_app (goodIn_by gd_X9_put (List.forall_mem_cons.mpr ⟨List.mem_cons_of_mem _ (List.mem_append_left _ (List.mem_of_getElem? (i := 2) rfl)), List.forall_mem_cons.mpr ⟨List.mem_cons_of_mem _ (List.mem_append_left _ (List.mem_of_getElem? (i := 3) rfl)), List.forall_mem_cons.mpr ⟨List.mem_cons_of_mem _ (List.mem_append_left _ (List.mem_of_getElem? (i := 4) rfl)), nowords_in⟩⟩⟩)) ggX9_put_X9_cut
theorem dX9_put_0 : decode cX9_put 0 = .ok (.aload_n 0, 1) := by decide +kernel
theorem dX9_put_1 : decode cX9_put 1 = .ok (.getfield 9, 3) := by decide +kernel
theorem dX9_put_4 : decode cX9_put 4 = .ok (.iload_n 1, 1) := by decide +kernel
theorem dX9_put_5 : decode cX9_put 5 = .ok (.bipush 60, 2) := by decide +kernel
theorem dX9_put_7 : decode cX9_put 7 = .ok (.imul, 1) := by decide +kernel
theorem dX9_put_8 : decode cX9_put 8 = .ok (.iload_n 2, 1) := by decide +kernel
theorem dX9_put_9 : decode cX9_put 9 = .ok (.iadd, 1) := by decide +kernel
theorem dX9_put_10 : decode cX9_put 10 = .ok (.aload_n 0, 1) := by decide +kernel
theorem dX9_put_11 : decode cX9_put 11 = .ok (.getfield 15, 3) := by decide +kernel
theorem dX9_put_14 : decode cX9_put 14 = .ok (.iload_n 1, 1) := by decide +kernel
theorem dX9_put_15 : decode cX9_put 15 = .ok (.iaload, 1) := by decide +kernel
theorem dX9_put_16 : decode cX9_put 16 = .ok (.lload_n 3, 1) := by decide +kernel
theorem dX9_put_17 : decode cX9_put 17 = .ok (.invokestatic 22, 3) := by decide +kernel
theorem dX9_put_20 : decode cX9_put 20 = .ok (.lastore, 1) := by decide +kernel
theorem dX9_put_21 : decode cX9_put 21 = .ok (.return_, 1) := by decide +kernel
abbrev rmX9_put : Room := { frames := 1, cells := 0, slots := 0, locals := 22 }
set_option maxHeartbeats 4000000 in
set_option maxRecDepth 100000 in
theorem kX9_put (l : Launch) (D : va_G) (cy : Nat → ClassId) (h0 : Nat) (a0 : Nat → Nat) (s0 : Rc) (p1 : Int32) (p2 : Int32) (p3 : Int64) (res : Rc) (h : fX9_put p1 p2 p3 s0 = some res) : CV l D cy yX9_put wsX9_put rmX9_put [.ref h0, .int p1, .int p2, .long p3] (flat [WX9 cy h0 a0 s0]) (flat [WX9 cy h0 a0 res]) := by
  refine CV.of (cc := cX9_put) (maxL := 5) (by decide) rfl (Nat.le_of_ble_eq_true rfl) ?_
  intro p e s m args below meth c A QQ ls E hr
  obtain ⟨hx, hb, hml, hown, hts, hK, hN, hP, hD, hA, hl⟩ := E
  have hret : ∀ (pc : Nat) (H : Heap) (locs : List Loc) (ls : Array Slot) (u : Rc), u = res → va_P D vwCl (flat [WX9 cy h0 a0 u]) H → va_D A (flat [WX9 cy h0 a0 u]) → va_S A s.heap H locs → decode cX9_put pc = .ok (.return_, 1) → W p l e rmX9_put s m args below meth c H locs 0 0 QQ (F0 m pc ls []) := by
    intro pc H locs ls u hu hP hD hS hd; subst hu; exact hr pc H locs ls hP hD hS hd
  clear hr
  have hl : lv_has ls 5 [(0, .ref h0), (1, .int p1), (2, .int p2), (3, .long p3)] := hl
  have hinX9 : ∀ w ∈ wsX90, w ∈ wsX9_put := fun _ h => List.mem_cons_of_mem _ (List.mem_append_right _ h)
  unfold fX9_put at h
  suffices key : ∀ (H : Heap) (locs : List Loc), va_P D vwCl (flat [WX9 cy h0 a0 s0]) H → va_S A s.heap H locs → W p l e rmX9_put s m args below meth c H locs 0 0 QQ (F0 m 0 ls []) from key _ _ hP va_S.rf
  clear hP
  intro H locs hP hS
  refine lv_aload_n hx hb dX9_put_0 rfl (lv_at hl 0 rfl) ?_
  refine va_get (D := D) (ci := 9) (v := .ref (a0 0)) (C := RX9) (T := TX9) (N := 3) hx hb hts hinX9 hown hK hP 0 rfl rfl 0 (by decide) (hts (.fieldLink RX9 9 "KneeBench$Trays" "numbers" "[J") (List.mem_of_getElem? (i := 1) rfl)) (fun _ h9 => h9) rfl dX9_put_1 ?_
  refine lv_iload_n hx hb dX9_put_4 rfl (lv_at hl 1 rfl) ?_
  refine lv_bipush (v := 60) hx hb dX9_put_5 (by decide) ?_
  refine lv_imul hx hb dX9_put_7 ?_
  refine lv_iload_n hx hb dX9_put_8 rfl (lv_at hl 2 rfl) ?_
  refine lv_iadd hx hb dX9_put_9 ?_
  refine lv_aload_n hx hb dX9_put_10 rfl (lv_at hl 0 rfl) ?_
  refine va_get (D := D) (ci := 9) (v := .ref (a0 1)) (C := RX9) (T := TX9) (N := 3) hx hb hts hinX9 hown hK hP 0 rfl rfl 1 (by decide) (hts (.fieldLink RX9 15 "KneeBench$Trays" "sorts" "[I") (List.mem_of_getElem? (i := 2) rfl)) (fun _ h9 => h9) rfl dX9_put_11 ?_
  refine lv_iload_n hx hb dX9_put_14 rfl (lv_at hl 1 rfl) ?_
  obtain ⟨g1, h⟩ := gd_elim h
  refine va_iald hx hb hK hP 2 1 rfl rfl (inb_in g1) dX9_put_15 ?_
  refine lv_lload_n hx hb dX9_put_16 rfl (lv_at hl 3 rfl) ?_
  refine ca_l (w' := [WX9 cy h0 a0 s0]) (rn_S (As := [.int (ga s0 1 p1.toNatClampNeg), .long p3]) (rest := [.int ((p1 * (60 : Int32)) + p2), .ref (a0 0)]) ⟨hx, hb, hml, hown, hts⟩ (kX9_cut l D cy (ga s0 1 p1.toNatClampNeg) p3 _ rfl H.size) (va_cwS 2 hts gX9_put_X9_cut rfl rfl rfl (by decide +kernel) ⟨Nat.le_of_ble_eq_true rfl, Nat.le_of_ble_eq_true rfl⟩) hK hN hP hD [] rfl rfl rfl hl.1 rfl (Nat.le_of_ble_eq_true rfl) dX9_put_17 ⟨Nat.le_refl 0, Nat.le_refl 0⟩) hP hD hS hA [] ⟨rfl, rfl, rfl, rfl⟩ (fun H locs hP hD hS => ?_)
  obtain ⟨g2, h⟩ := gd_elim h
  obtain ⟨s0_3, es, h⟩ := lt_elim h
  refine va_last hx hb hK hP hD hS 1 2 rfl rfl (inb_in g2) dX9_put_20 (fun H locs hP hD hS => ?_)
  have hP : va_P D vwCl (flat [WX9 cy h0 a0 s0_3]) H := by rw [es]; exact hP
  have hD : va_D A (flat [WX9 cy h0 a0 s0_3]) := by rw [es]; exact hD
  clear es
  exact hret 21 H locs ls s0_3 (Option.some.inj h) hP hD hS dX9_put_21
