set_option maxRecDepth 20000 in
theorem ggX11_aVote_X11_fails : GoodIn wsX11_aVote wsX11_fails := goodIn_r _ [7, 8, 9, 10, 11, 88, 89, 90, 91, 92, 93, 94, 95, 96, 97, 98, 99, 100, 101, 102, 103, 104, 105, 106, 107, 108, 109, 110, 111, 112, 113, 114, 115, 116, 117, 118, 119, 120, 121, 122, 123, 124, 125] (by decide +kernel) (by decide +kernel)
set_option maxRecDepth 20000 in
theorem gX11_aVote_X11_fails : GoodIn wsX11_aVote (wsV RX11 157 RX11 yX11_fails wsX11_fails) := goodIn_app (goodIn_of _ (by decide +kernel)) ggX11_aVote_X11_fails
set_option maxRecDepth 20000 in
theorem ggX11_aVote_X11_ahead : GoodIn wsX11_aVote wsX11_ahead := goodIn_r _ [15, 16, 10, 17, 9, 18, 19, 20, 21, 22, 23, 24, 25, 6, 26, 27, 28, 29, 30, 31, 32, 33, 34, 88, 89, 90, 91, 92, 93, 94, 95, 96, 97, 98, 99, 100, 101, 102, 103, 104, 105, 106, 107, 108, 109, 110, 111, 112, 113, 114, 115, 116, 117, 118, 119, 120, 121, 122, 123, 124, 125] (by decide +kernel) (by decide +kernel)
set_option maxRecDepth 20000 in
theorem gX11_aVote_X11_ahead : GoodIn wsX11_aVote (wsV RX11 151 RX11 yX11_ahead wsX11_ahead) := goodIn_app (goodIn_of _ (by decide +kernel)) ggX11_aVote_X11_ahead
set_option maxRecDepth 20000 in
theorem ggX11_aVote_X11_inWords : GoodIn wsX11_aVote wsX11_inWords := goodIn_r _ [38, 9, 16, 10, 39, 40, 41, 42, 43, 44, 45, 46, 47, 48, 49, 50, 51, 52, 53, 54, 55, 56, 57, 58, 59, 60, 61, 62, 63, 64, 65, 66, 67, 68, 69, 70, 71, 72, 73, 74, 75, 76, 77, 78, 79, 80, 81, 82, 83, 84, 85, 86, 87, 23, 24, 25, 6, 26, 27, 28, 88, 89, 90, 91, 92, 93, 94, 95, 96, 97, 98, 99, 100, 101, 102, 103, 104, 105, 106, 107, 108, 109, 110, 111, 112, 113, 114, 115, 116, 117, 118, 119, 120, 121, 122, 123, 124, 125] (by decide +kernel) (by decide +kernel)
set_option maxRecDepth 20000 in
theorem gX11_aVote_X11_inWords : GoodIn wsX11_aVote (wsV RX11 160 RX11 yX11_inWords wsX11_inWords) := goodIn_app (goodIn_of _ (by decide +kernel)) ggX11_aVote_X11_inWords
theorem dX11_aVote_0 : decode cX11_aVote 0 = .ok (.aload_n 0, 1) := by decide +kernel
theorem dX11_aVote_1 : decode cX11_aVote 1 = .ok (.getfield 198, 3) := by decide +kernel
theorem dX11_aVote_4 : decode cX11_aVote 4 = .ok (.ifCond .eq 9, 3) := by decide +kernel
theorem dX11_aVote_7 : decode cX11_aVote 7 = .ok (.aload_n 0, 1) := by decide +kernel
theorem dX11_aVote_8 : decode cX11_aVote 8 = .ok (.iconst 5, 1) := by decide +kernel
theorem dX11_aVote_9 : decode cX11_aVote 9 = .ok (.invokevirtual 157, 3) := by decide +kernel
theorem dX11_aVote_12 : decode cX11_aVote 12 = .ok (.ireturn, 1) := by decide +kernel
theorem dX11_aVote_13 : decode cX11_aVote 13 = .ok (.aload_n 0, 1) := by decide +kernel
theorem dX11_aVote_14 : decode cX11_aVote 14 = .ok (.iconst 1, 1) := by decide +kernel
theorem dX11_aVote_15 : decode cX11_aVote 15 = .ok (.putfield 198, 3) := by decide +kernel
theorem dX11_aVote_18 : decode cX11_aVote 18 = .ok (.aload_n 0, 1) := by decide +kernel
theorem dX11_aVote_19 : decode cX11_aVote 19 = .ok (.invokevirtual 151, 3) := by decide +kernel
theorem dX11_aVote_22 : decode cX11_aVote 22 = .ok (.aload_n 0, 1) := by decide +kernel
theorem dX11_aVote_23 : decode cX11_aVote 23 = .ok (.ldc 168, 2) := by decide +kernel
theorem dX11_aVote_25 : decode cX11_aVote 25 = .ok (.invokevirtual 160, 3) := by decide +kernel
theorem dX11_aVote_28 : decode cX11_aVote 28 = .ok (.istore_n 1, 1) := by decide +kernel
theorem dX11_aVote_29 : decode cX11_aVote 29 = .ok (.iload_n 1, 1) := by decide +kernel
theorem dX11_aVote_30 : decode cX11_aVote 30 = .ok (.bipush 10, 2) := by decide +kernel
theorem dX11_aVote_32 : decode cX11_aVote 32 = .ok (.if_icmp .lt 9, 3) := by decide +kernel
theorem dX11_aVote_35 : decode cX11_aVote 35 = .ok (.iload_n 1, 1) := by decide +kernel
theorem dX11_aVote_36 : decode cX11_aVote 36 = .ok (.bipush 13, 2) := by decide +kernel
theorem dX11_aVote_38 : decode cX11_aVote 38 = .ok (.if_icmp .le 9, 3) := by decide +kernel
theorem dX11_aVote_41 : decode cX11_aVote 41 = .ok (.aload_n 0, 1) := by decide +kernel
theorem dX11_aVote_42 : decode cX11_aVote 42 = .ok (.iconst 2, 1) := by decide +kernel
theorem dX11_aVote_43 : decode cX11_aVote 43 = .ok (.invokevirtual 157, 3) := by decide +kernel
theorem dX11_aVote_46 : decode cX11_aVote 46 = .ok (.ireturn, 1) := by decide +kernel
theorem dX11_aVote_47 : decode cX11_aVote 47 = .ok (.aload_n 0, 1) := by decide +kernel
theorem dX11_aVote_48 : decode cX11_aVote 48 = .ok (.getfield 7, 3) := by decide +kernel
theorem dX11_aVote_51 : decode cX11_aVote 51 = .ok (.sipush 4162, 3) := by decide +kernel
theorem dX11_aVote_54 : decode cX11_aVote 54 = .ok (.iload_n 1, 1) := by decide +kernel
theorem dX11_aVote_55 : decode cX11_aVote 55 = .ok (.bipush 10, 2) := by decide +kernel
theorem dX11_aVote_57 : decode cX11_aVote 57 = .ok (.isub, 1) := by decide +kernel
theorem dX11_aVote_58 : decode cX11_aVote 58 = .ok (.iastore, 1) := by decide +kernel
theorem dX11_aVote_59 : decode cX11_aVote 59 = .ok (.aload_n 0, 1) := by decide +kernel
theorem dX11_aVote_60 : decode cX11_aVote 60 = .ok (.invokevirtual 151, 3) := by decide +kernel
theorem dX11_aVote_63 : decode cX11_aVote 63 = .ok (.iconst 1, 1) := by decide +kernel
theorem dX11_aVote_64 : decode cX11_aVote 64 = .ok (.ireturn, 1) := by decide +kernel
abbrev rmX11_aVote : Room := { frames := 5, cells := 0, slots := 0, locals := 111 }
set_option maxHeartbeats 4000000 in
set_option maxRecDepth 100000 in
theorem kX11_aVote (S : Nat → Nat) (l : Launch) (D : va_G) (cy : Nat → ClassId) (h0 : Nat) (a0 : Nat → Nat) (s0 : Rc) (res : Int32 × Rc) (h : fX11_aVote s0 = some res) : CZ2 S l D cy yX11_aVote wsX11_aVote rmX11_aVote [.ref h0] (flat [WX11 cy h0 a0 s0]) (flat [WX11 cy h0 a0 res.2]) res.1 := by
  refine CZ2.of (cc := cX11_aVote) (maxL := 2) (by decide) rfl (Nat.le_of_ble_eq_true rfl) ?_
  intro p e s m args below meth c A QQ ls E hX hr
  obtain ⟨hx, hb, hml, hown, hts, hK, hN, hP, hD, hA, hl⟩ := E
  have hret : ∀ (pc : Nat) (H : Heap) (locs : List Loc) (ls : Array Slot) (u : Int32 × Rc), u = res → va_P D vwCl (flat [WX11 cy h0 a0 u.2]) H → va_D A (flat [WX11 cy h0 a0 u.2]) → va_S A s.heap H locs → isb u.1 = true → decode cX11_aVote pc = .ok (.ireturn, 1) → W p l e rmX11_aVote s m args below meth c H locs 0 0 QQ (F0 m pc ls [.int u.1]) := by
    intro pc H locs ls u hu hP hD hS hz hd; subst hu; exact hr pc H locs ls _ rfl hP hD hS hz hd
  clear hr
  have hl : lv_has ls 2 [(0, .ref h0)] := hl
  have hinX11 : ∀ w ∈ wsX110, w ∈ wsX11_aVote := fun _ h => List.mem_cons_of_mem _ (List.mem_append_right _ h)
  unfold fX11_aVote at h
  suffices key : ∀ (H : Heap) (locs : List Loc), va_P D vwCl (flat [WX11 cy h0 a0 s0]) H → va_S A s.heap H locs → W p l e rmX11_aVote s m args below meth c H locs 0 0 QQ (F0 m 0 ls []) from key _ _ hP va_S.rf
  clear hP
  intro H locs hP hS
  refine lv_aload_n hx hb dX11_aVote_0 rfl (lv_at hl 0 rfl) ?_
  refine va_get (D := D) (ci := 11) (v := .int (gi s0 20)) (C := RX11) (T := TX11) (N := 38) hx hb hts hinX11 hown hK hP 0 rfl rfl 20 (by decide) (hts (.fieldLink RX11 198 "KneeBenchModel" "voteTold" "Z") (List.mem_of_getElem? (i := 1) rfl)) (fun _ h9 => h9) rfl dX11_aVote_1 ?_
  refine lv_if_eq (tgt := 13) hx hb dX11_aVote_4 (by decide) (fun c1 => ?_) (fun c1 => ?_)
  · replace h := (if_pos c1).symm.trans h
    refine lv_aload_n hx hb dX11_aVote_13 rfl (lv_at hl 0 rfl) ?_
    refine lv_iconst (v := 1) hx hb dX11_aVote_14 (by decide) ?_
    obtain ⟨s0_2, es, h⟩ := lt_elim h
    refine va_put (D := D) (ci := 11) (v := .int (1 : Int32)) (ty := .boolean) (C := RX11) (T := TX11) (N := 38) hx hb hts hinX11 tyX11 tyX11_ok nmX11 hown hK hP hD hS 0 rfl rfl 20 (by decide) (hts (.fieldLink RX11 198 "KneeBenchModel" "voteTold" "Z") (List.mem_of_getElem? (i := 1) rfl)) (fun _ h9 => h9) rfl (by decide +kernel) (isb_nar (show isb (1 : Int32) = true by decide)) (isb_fit (show isb (1 : Int32) = true by decide)) (Nat.le_of_ble_eq_true rfl) dX11_aVote_15 (fun H locs hP hD hS => ?_)
    have hP : va_P D vwCl (flat [WX11 cy h0 a0 s0_2]) H := by rw [es]; exact hP
    have hD : va_D A (flat [WX11 cy h0 a0 s0_2]) := by rw [es]; exact hD
    clear es
    refine lv_aload_n hx hb dX11_aVote_18 rfl (lv_at hl 0 rfl) ?_
    obtain ⟨r3, hr3, h⟩ := bd_elim h
    refine ca_v (w' := [WX11 cy h0 a0 r3]) (rn_V (As := []) (rest := []) ⟨hx, hb, hml, hown, hts⟩ (kX11_ahead l D cy h0 a0 s0_2 r3 hr3 H.size) (cwV 0 hts gX11_aVote_X11_ahead rfl rfl rfl (by decide +kernel) ⟨Nat.le_of_ble_eq_true rfl, Nat.le_of_ble_eq_true rfl⟩) hK hN hP hD [0] rfl rfl (ci := 11) (q0 := 0) rfl rfl rfl rfl hl.1 rfl (Nat.le_of_ble_eq_true rfl) dX11_aVote_19 ⟨Nat.le_refl 0, Nat.le_refl 0⟩) hP hD hS hA [0] ⟨rfl, rfl, rfl, rfl⟩ (fun H locs hP hD hS => ?_)
    refine lv_aload_n hx hb dX11_aVote_22 rfl (lv_at hl 0 rfl) ?_
    refine va_ldcS hx hb hown hX.1.2 dX11_aVote_23 ?_
    obtain ⟨r4, hr4, h⟩ := bd_elim h
    refine ca_i (w' := [WX11 cy h0 a0 r3]) (rn_V2 (As := [.ref (S 2)]) (rest := []) ⟨hx, hb, hml, hown, hts⟩ (kX11_inWords S l D cy h0 a0 r3 r4 hr4 H.size) (cwV 1 hts gX11_aVote_X11_inWords rfl rfl rfl (by decide +kernel) ⟨Nat.le_of_ble_eq_true rfl, Nat.le_of_ble_eq_true rfl⟩) hK hN hX hP hD hS hA [0] rfl rfl (ci := 11) (q0 := 0) rfl rfl rfl rfl hl.1 rfl (Nat.le_of_ble_eq_true rfl) dX11_aVote_25 ⟨Nat.le_refl 0, Nat.le_refl 0⟩) hP hD hS hA [0] ⟨rfl, rfl, rfl, rfl⟩ (fun H locs hP hD hS => ?_)
    refine lv_istore_n (lv' := [(1, .int r4), (0, .ref h0)]) hx hb dX11_aVote_28 rfl hl (by decide) rfl (fun ls hl => ?_)
    refine lv_iload_n hx hb dX11_aVote_29 rfl (lv_at hl 0 rfl) ?_
    refine lv_bipush (v := 10) hx hb dX11_aVote_30 (by decide) ?_
    refine lv_icmp_lt (tgt := 41) hx hb dX11_aVote_32 (by decide) (fun c5 => ?_) (fun c5 => ?_)
    · replace h := (if_pos c5).symm.trans h
      refine lv_aload_n hx hb dX11_aVote_41 rfl (lv_at hl 1 rfl) ?_
      refine lv_iconst (v := 2) hx hb dX11_aVote_42 (by decide) ?_
      obtain ⟨r6, hr6, h⟩ := lt_elim h
      refine ca_z (w' := [WX11 cy h0 a0 r6.2]) (rn_V (As := [.int (2 : Int32)]) (rest := []) ⟨hx, hb, hml, hown, hts⟩ (kX11_fails l D cy h0 a0 r3 (2 : Int32) r6 hr6.symm H.size) (cwV 1 hts gX11_aVote_X11_fails rfl rfl rfl (by decide +kernel) ⟨Nat.le_of_ble_eq_true rfl, Nat.le_of_ble_eq_true rfl⟩) hK hN hP hD [0] rfl rfl (ci := 11) (q0 := 0) rfl rfl rfl rfl hl.1 rfl (Nat.le_of_ble_eq_true rfl) dX11_aVote_43 ⟨Nat.le_refl 0, Nat.le_refl 0⟩) hP hD hS hA [0] ⟨rfl, rfl, rfl, rfl⟩ (fun b7 H locs hP hD hS => ?_)
      exact hret 46 H locs ls (r6.1, r6.2) (Option.some.inj h) hP hD hS b7 dX11_aVote_46
    · replace h := (if_neg c5).symm.trans h
      refine lv_iload_n hx hb dX11_aVote_35 rfl (lv_at hl 0 rfl) ?_
      refine lv_bipush (v := 13) hx hb dX11_aVote_36 (by decide) ?_
      refine lv_icmp_le (tgt := 47) hx hb dX11_aVote_38 (by decide) (fun c8 => ?_) (fun c8 => ?_)
      · replace h := (if_pos c8).symm.trans h
        refine lv_aload_n hx hb dX11_aVote_47 rfl (lv_at hl 1 rfl) ?_
        refine va_get (D := D) (ci := 11) (v := .ref (a0 0)) (C := RX11) (T := TX11) (N := 38) hx hb hts hinX11 hown hK hP 0 rfl rfl 0 (by decide) (hts (.fieldLink RX11 7 "KneeBenchModel" "at" "[I") (List.mem_of_getElem? (i := 2) rfl)) (fun _ h9 => h9) rfl dX11_aVote_48 ?_
        refine lv_sipush (v := 4162) hx hb dX11_aVote_51 (by decide) ?_
        refine lv_iload_n hx hb dX11_aVote_54 rfl (lv_at hl 0 rfl) ?_
        refine lv_bipush (v := 10) hx hb dX11_aVote_55 (by decide) ?_
        refine lv_isub hx hb dX11_aVote_57 ?_
        obtain ⟨s0_9, es, h⟩ := lt_elim h
        refine va_iast hx hb hK hP hD hS 1 1 rfl rfl (inb_in (by decide)) dX11_aVote_58 (fun H locs hP hD hS => ?_)
        have hP : va_P D vwCl (flat [WX11 cy h0 a0 s0_9]) H := by rw [es]; exact hP
        have hD : va_D A (flat [WX11 cy h0 a0 s0_9]) := by rw [es]; exact hD
        clear es
        refine lv_aload_n hx hb dX11_aVote_59 rfl (lv_at hl 1 rfl) ?_
        obtain ⟨r10, hr10, h⟩ := bd_elim h
        refine ca_v (w' := [WX11 cy h0 a0 r10]) (rn_V (As := []) (rest := []) ⟨hx, hb, hml, hown, hts⟩ (kX11_ahead l D cy h0 a0 s0_9 r10 hr10 H.size) (cwV 0 hts gX11_aVote_X11_ahead rfl rfl rfl (by decide +kernel) ⟨Nat.le_of_ble_eq_true rfl, Nat.le_of_ble_eq_true rfl⟩) hK hN hP hD [0] rfl rfl (ci := 11) (q0 := 0) rfl rfl rfl rfl hl.1 rfl (Nat.le_of_ble_eq_true rfl) dX11_aVote_60 ⟨Nat.le_refl 0, Nat.le_refl 0⟩) hP hD hS hA [0] ⟨rfl, rfl, rfl, rfl⟩ (fun H locs hP hD hS => ?_)
        refine lv_iconst (v := 1) hx hb dX11_aVote_63 (by decide) ?_
        exact hret 64 H locs ls ((1 : Int32), r10) (Option.some.inj h) hP hD hS (show isb (1 : Int32) = true by decide) dX11_aVote_64
      · replace h := (if_neg c8).symm.trans h
        refine lv_aload_n hx hb dX11_aVote_41 rfl (lv_at hl 1 rfl) ?_
        refine lv_iconst (v := 2) hx hb dX11_aVote_42 (by decide) ?_
        obtain ⟨r11, hr11, h⟩ := lt_elim h
        refine ca_z (w' := [WX11 cy h0 a0 r11.2]) (rn_V (As := [.int (2 : Int32)]) (rest := []) ⟨hx, hb, hml, hown, hts⟩ (kX11_fails l D cy h0 a0 r3 (2 : Int32) r11 hr11.symm H.size) (cwV 1 hts gX11_aVote_X11_fails rfl rfl rfl (by decide +kernel) ⟨Nat.le_of_ble_eq_true rfl, Nat.le_of_ble_eq_true rfl⟩) hK hN hP hD [0] rfl rfl (ci := 11) (q0 := 0) rfl rfl rfl rfl hl.1 rfl (Nat.le_of_ble_eq_true rfl) dX11_aVote_43 ⟨Nat.le_refl 0, Nat.le_refl 0⟩) hP hD hS hA [0] ⟨rfl, rfl, rfl, rfl⟩ (fun b12 H locs hP hD hS => ?_)
        exact hret 46 H locs ls (r11.1, r11.2) (Option.some.inj h) hP hD hS b12 dX11_aVote_46
  · replace h := (if_neg c1).symm.trans h
    refine lv_aload_n hx hb dX11_aVote_7 rfl (lv_at hl 0 rfl) ?_
    refine lv_iconst (v := 5) hx hb dX11_aVote_8 (by decide) ?_
    obtain ⟨r13, hr13, h⟩ := lt_elim h
    refine ca_z (w' := [WX11 cy h0 a0 r13.2]) (rn_V (As := [.int (5 : Int32)]) (rest := []) ⟨hx, hb, hml, hown, hts⟩ (kX11_fails l D cy h0 a0 s0 (5 : Int32) r13 hr13.symm H.size) (cwV 1 hts gX11_aVote_X11_fails rfl rfl rfl (by decide +kernel) ⟨Nat.le_of_ble_eq_true rfl, Nat.le_of_ble_eq_true rfl⟩) hK hN hP hD [0] rfl rfl (ci := 11) (q0 := 0) rfl rfl rfl rfl hl.1 rfl (Nat.le_of_ble_eq_true rfl) dX11_aVote_9 ⟨Nat.le_refl 0, Nat.le_refl 0⟩) hP hD hS hA [0] ⟨rfl, rfl, rfl, rfl⟩ (fun b14 H locs hP hD hS => ?_)
    exact hret 12 H locs ls (r13.1, r13.2) (Option.some.inj h) hP hD hS b14 dX11_aVote_12
set_option maxRecDepth 20000 in
theorem ggX11_benchPart_X11_inWords : GoodIn wsX11_benchPart wsX11_inWords := goodIn_r _ [5, 6, 7, 8, 9, 10, 11, 12, 13, 14, 15, 16, 17, 18, 19, 20, 21, 22, 23, 24, 25, 26, 27, 28, 29, 30, 31, 32, 33, 34, 35, 36, 37, 38, 39, 40, 41, 42, 43, 44, 45, 46, 47, 48, 49, 50, 51, 52, 53, 54, 55, 56, 57, 58, 59, 60, 4, 61, 62, 63, 148, 149, 150, 151, 152, 153, 154, 155, 156, 157, 158, 159, 160, 161, 162, 163, 164, 165, 166, 167, 168, 169, 170, 171, 172, 173, 174, 175, 176, 177, 178, 179, 180, 181, 182, 183, 184, 185] (by decide +kernel) (by decide +kernel)
set_option maxRecDepth 20000 in
theorem gX11_benchPart_X11_inWords : GoodIn wsX11_benchPart (wsV RX11 160 RX11 yX11_inWords wsX11_inWords) := goodIn_app (goodIn_of _ (by decide +kernel)) ggX11_benchPart_X11_inWords
set_option maxRecDepth 20000 in
theorem ggX11_benchPart_X11_aFarmer : GoodIn wsX11_benchPart wsX11_aFarmer := goodIn_r _ [67, 68, 69, 70, 71, 72, 4, 73, 74, 75, 76, 77, 78, 6, 8, 79, 80, 81, 82, 83, 7, 84, 85, 86, 87, 88, 89, 58, 59, 60, 61, 62, 63, 90, 91, 92, 93, 94, 95, 96, 97, 98, 99, 1, 2, 3, 5, 9, 10, 11, 12, 13, 14, 15, 16, 17, 18, 19, 20, 21, 22, 23, 24, 25, 26, 27, 28, 29, 30, 31, 32, 33, 34, 35, 36, 37, 38, 39, 40, 41, 42, 43, 44, 45, 46, 47, 48, 49, 50, 51, 52, 53, 54, 55, 56, 57, 100, 101, 102, 103, 104, 105, 106, 107, 108, 109, 110, 111, 112, 113, 114, 115, 116, 117, 118, 119, 148, 149, 150, 151, 152, 153, 154, 155, 156, 157, 158, 159, 160, 161, 162, 163, 164, 165, 166, 167, 168, 169, 170, 171, 172, 173, 174, 175, 176, 177, 178, 179, 180, 181, 182, 183, 184, 185] (by decide +kernel) (by decide +kernel)
set_option maxRecDepth 20000 in
theorem gX11_benchPart_X11_aFarmer : GoodIn wsX11_benchPart (wsV RX11 202 RX11 yX11_aFarmer wsX11_aFarmer) := goodIn_app (goodIn_of _ (by decide +kernel)) ggX11_benchPart_X11_aFarmer
set_option maxRecDepth 20000 in
theorem ggX11_benchPart_X11_aDislike : GoodIn wsX11_benchPart wsX11_aDislike := goodIn_r _ [123, 68, 80, 81, 82, 4, 83, 7, 8, 84, 6, 85, 86, 87, 88, 89, 58, 59, 60, 61, 62, 63, 90, 91, 92, 93, 94, 95, 124, 125, 126, 127, 96, 97, 98, 99, 1, 2, 3, 5, 9, 10, 11, 12, 13, 14, 15, 16, 17, 18, 19, 20, 21, 22, 23, 24, 25, 26, 27, 28, 29, 30, 31, 32, 33, 34, 35, 36, 37, 38, 39, 40, 41, 42, 43, 44, 45, 46, 47, 48, 49, 50, 51, 52, 53, 54, 55, 56, 57, 74, 75, 76, 77, 78, 79, 100, 101, 102, 103, 69, 104, 105, 106, 107, 108, 109, 110, 111, 148, 149, 150, 151, 152, 153, 154, 155, 156, 157, 158, 159, 160, 161, 162, 163, 164, 165, 166, 167, 168, 169, 170, 171, 172, 173, 174, 175, 176, 177, 178, 179, 180, 181, 182, 183, 184, 185] (by decide +kernel) (by decide +kernel)
set_option maxRecDepth 20000 in
theorem gX11_benchPart_X11_aDislike : GoodIn wsX11_benchPart (wsV RX11 206 RX11 yX11_aDislike wsX11_aDislike) := goodIn_app (goodIn_of _ (by decide +kernel)) ggX11_benchPart_X11_aDislike
set_option maxRecDepth 20000 in
theorem ggX11_benchPart_X11_aWeather : GoodIn wsX11_benchPart wsX11_aWeather := goodIn_r _ [131, 6, 7, 8, 68, 80, 81, 82, 4, 83, 84, 85, 86, 87, 88, 89, 58, 59, 60, 61, 62, 63, 90, 91, 92, 93, 94, 95, 74, 75, 76, 77, 78, 79, 132, 133, 134, 148, 149, 150, 151, 152, 153, 154, 155, 156, 157, 158, 159, 160, 161, 162, 163, 164, 165, 166, 167, 168, 169, 170, 171, 172, 173, 174, 175, 176, 177, 178, 179, 180, 181, 182, 183, 184, 185] (by decide +kernel) (by decide +kernel)
set_option maxRecDepth 20000 in
theorem gX11_benchPart_X11_aWeather : GoodIn wsX11_benchPart (wsV RX11 209 RX11 yX11_aWeather wsX11_aWeather) := goodIn_app (goodIn_of _ (by decide +kernel)) ggX11_benchPart_X11_aWeather
set_option maxRecDepth 20000 in
theorem ggX11_benchPart_X11_aVote : GoodIn wsX11_benchPart wsX11_aVote := goodIn_r _ [138, 139, 68, 74, 75, 76, 4, 77, 78, 6, 8, 79, 80, 81, 82, 83, 7, 84, 85, 86, 87, 88, 89, 58, 59, 60, 61, 62, 63, 90, 91, 92, 93, 94, 95, 1, 2, 3, 5, 9, 10, 11, 12, 13, 14, 15, 16, 17, 18, 19, 20, 21, 22, 23, 24, 25, 26, 27, 28, 29, 30, 31, 32, 33, 34, 35, 36, 37, 38, 39, 40, 41, 42, 43, 44, 45, 46, 47, 48, 49, 50, 51, 52, 53, 54, 55, 56, 57, 148, 149, 150, 151, 152, 153, 154, 155, 156, 157, 158, 159, 160, 161, 162, 163, 164, 165, 166, 167, 168, 169, 170, 171, 172, 173, 174, 175, 176, 177, 178, 179, 180, 181, 182, 183, 184, 185] (by decide +kernel) (by decide +kernel)
set_option maxRecDepth 20000 in
theorem gX11_benchPart_X11_aVote : GoodIn wsX11_benchPart (wsV RX11 212 RX11 yX11_aVote wsX11_aVote) := goodIn_app (goodIn_of _ (by decide +kernel)) ggX11_benchPart_X11_aVote
set_option maxRecDepth 20000 in
theorem ggX11_benchPart_X11_fails : GoodIn wsX11_benchPart wsX11_fails := goodIn_r _ [77, 78, 6, 8, 79, 148, 149, 150, 151, 152, 153, 154, 155, 156, 157, 158, 159, 160, 161, 162, 163, 164, 165, 166, 167, 168, 169, 170, 171, 172, 173, 174, 175, 176, 177, 178, 179, 180, 181, 182, 183, 184, 185] (by decide +kernel) (by decide +kernel)
set_option maxRecDepth 20000 in
theorem gX11_benchPart_X11_fails : GoodIn wsX11_benchPart (wsV RX11 157 RX11 yX11_fails wsX11_fails) := goodIn_app (goodIn_of _ (by decide +kernel)) ggX11_benchPart_X11_fails
set_option maxRecDepth 20000 in
theorem ggX11_benchPart_X11_wantSign : GoodIn wsX11_benchPart wsX11_wantSign := goodIn_r _ [143, 144, 145, 146, 4, 147, 6, 84, 74, 75, 76, 77, 78, 8, 79, 80, 81, 82, 83, 7, 85, 86, 87, 88, 89, 58, 59, 60, 61, 62, 63, 90, 91, 92, 93, 94, 95, 148, 149, 150, 151, 152, 153, 154, 155, 156, 157, 158, 159, 160, 161, 162, 163, 164, 165, 166, 167, 168, 169, 170, 171, 172, 173, 174, 175, 176, 177, 178, 179, 180, 181, 182, 183, 184, 185] (by decide +kernel) (by decide +kernel)
set_option maxRecDepth 20000 in
theorem gX11_benchPart_X11_wantSign : GoodIn wsX11_benchPart (wsV RX11 215 RX11 yX11_wantSign wsX11_wantSign) := goodIn_app (goodIn_of _ (by decide +kernel)) ggX11_benchPart_X11_wantSign
theorem dX11_benchPart_0 : decode cX11_benchPart 0 = .ok (.aload_n 0, 1) := by decide +kernel
theorem dX11_benchPart_1 : decode cX11_benchPart 1 = .ok (.ldc 168, 2) := by decide +kernel
theorem dX11_benchPart_3 : decode cX11_benchPart 3 = .ok (.invokevirtual 160, 3) := by decide +kernel
theorem dX11_benchPart_6 : decode cX11_benchPart 6 = .ok (.tableswitch 62 0 3 #[30, 38, 46, 54], 30) := by decide +kernel
theorem dX11_benchPart_36 : decode cX11_benchPart 36 = .ok (.aload_n 0, 1) := by decide +kernel
theorem dX11_benchPart_37 : decode cX11_benchPart 37 = .ok (.invokevirtual 202, 3) := by decide +kernel
theorem dX11_benchPart_40 : decode cX11_benchPart 40 = .ok (.istore_n 1, 1) := by decide +kernel
theorem dX11_benchPart_41 : decode cX11_benchPart 41 = .ok (.goto 33, 3) := by decide +kernel
theorem dX11_benchPart_44 : decode cX11_benchPart 44 = .ok (.aload_n 0, 1) := by decide +kernel
theorem dX11_benchPart_45 : decode cX11_benchPart 45 = .ok (.invokevirtual 206, 3) := by decide +kernel
theorem dX11_benchPart_48 : decode cX11_benchPart 48 = .ok (.istore_n 1, 1) := by decide +kernel
theorem dX11_benchPart_49 : decode cX11_benchPart 49 = .ok (.goto 25, 3) := by decide +kernel
theorem dX11_benchPart_52 : decode cX11_benchPart 52 = .ok (.aload_n 0, 1) := by decide +kernel
theorem dX11_benchPart_53 : decode cX11_benchPart 53 = .ok (.invokevirtual 209, 3) := by decide +kernel
theorem dX11_benchPart_56 : decode cX11_benchPart 56 = .ok (.istore_n 1, 1) := by decide +kernel
theorem dX11_benchPart_57 : decode cX11_benchPart 57 = .ok (.goto 17, 3) := by decide +kernel
theorem dX11_benchPart_60 : decode cX11_benchPart 60 = .ok (.aload_n 0, 1) := by decide +kernel
theorem dX11_benchPart_61 : decode cX11_benchPart 61 = .ok (.invokevirtual 212, 3) := by decide +kernel
theorem dX11_benchPart_64 : decode cX11_benchPart 64 = .ok (.istore_n 1, 1) := by decide +kernel
theorem dX11_benchPart_65 : decode cX11_benchPart 65 = .ok (.goto 9, 3) := by decide +kernel
theorem dX11_benchPart_68 : decode cX11_benchPart 68 = .ok (.aload_n 0, 1) := by decide +kernel
theorem dX11_benchPart_69 : decode cX11_benchPart 69 = .ok (.iconst 2, 1) := by decide +kernel
theorem dX11_benchPart_70 : decode cX11_benchPart 70 = .ok (.invokevirtual 157, 3) := by decide +kernel
theorem dX11_benchPart_73 : decode cX11_benchPart 73 = .ok (.ireturn, 1) := by decide +kernel
theorem dX11_benchPart_74 : decode cX11_benchPart 74 = .ok (.iload_n 1, 1) := by decide +kernel
theorem dX11_benchPart_75 : decode cX11_benchPart 75 = .ok (.ifCond .eq 16, 3) := by decide +kernel
theorem dX11_benchPart_78 : decode cX11_benchPart 78 = .ok (.aload_n 0, 1) := by decide +kernel
theorem dX11_benchPart_79 : decode cX11_benchPart 79 = .ok (.bipush 59, 2) := by decide +kernel
theorem dX11_benchPart_81 : decode cX11_benchPart 81 = .ok (.invokevirtual 215, 3) := by decide +kernel
theorem dX11_benchPart_84 : decode cX11_benchPart 84 = .ok (.ifCond .eq 7, 3) := by decide +kernel
theorem dX11_benchPart_87 : decode cX11_benchPart 87 = .ok (.iconst 1, 1) := by decide +kernel
theorem dX11_benchPart_88 : decode cX11_benchPart 88 = .ok (.goto 4, 3) := by decide +kernel
theorem dX11_benchPart_91 : decode cX11_benchPart 91 = .ok (.iconst 0, 1) := by decide +kernel
theorem dX11_benchPart_92 : decode cX11_benchPart 92 = .ok (.ireturn, 1) := by decide +kernel
abbrev rmX11_benchPart : Room := { frames := 8, cells := 0, slots := 0, locals := 176 }
set_option maxHeartbeats 4000000 in
set_option maxRecDepth 100000 in
theorem kX11_benchPart (S : Nat → Nat) (l : Launch) (D : va_G) (cy : Nat → ClassId) (h0 : Nat) (a0 : Nat → Nat) (s0 : Rc) (res : Int32 × Rc) (h : fX11_benchPart s0 = some res) : CZ2 S l D cy yX11_benchPart wsX11_benchPart rmX11_benchPart [.ref h0] (flat [WX11 cy h0 a0 s0]) (flat [WX11 cy h0 a0 res.2]) res.1 := by
  refine CZ2.of (cc := cX11_benchPart) (maxL := 2) (by decide) rfl (Nat.le_of_ble_eq_true rfl) ?_
  intro p e s m args below meth c A QQ ls E hX hr
  obtain ⟨hx, hb, hml, hown, hts, hK, hN, hP, hD, hA, hl⟩ := E
  have hret : ∀ (pc : Nat) (H : Heap) (locs : List Loc) (ls : Array Slot) (u : Int32 × Rc), u = res → va_P D vwCl (flat [WX11 cy h0 a0 u.2]) H → va_D A (flat [WX11 cy h0 a0 u.2]) → va_S A s.heap H locs → isb u.1 = true → decode cX11_benchPart pc = .ok (.ireturn, 1) → W p l e rmX11_benchPart s m args below meth c H locs 0 0 QQ (F0 m pc ls [.int u.1]) := by
    intro pc H locs ls u hu hP hD hS hz hd; subst hu; exact hr pc H locs ls _ rfl hP hD hS hz hd
  clear hr
  have hl : lv_has ls 2 [(0, .ref h0)] := hl
  unfold fX11_benchPart at h
  suffices key : ∀ (H : Heap) (locs : List Loc), va_P D vwCl (flat [WX11 cy h0 a0 s0]) H → va_S A s.heap H locs → W p l e rmX11_benchPart s m args below meth c H locs 0 0 QQ (F0 m 0 ls []) from key _ _ hP va_S.rf
  clear hP
  intro H locs hP hS
  have J74 : ∀ (y74_1 : Int32) (t74_0 : Rc) (H : Heap) (locs : List Loc) (ls : Array Slot), lv_has ls 2 [(0, .ref h0), (1, .int y74_1)] → va_P D vwCl (flat [WX11 cy h0 a0 t74_0]) H → va_D A (flat [WX11 cy h0 a0 t74_0]) → va_S A s.heap H locs → fX11_benchPart_J74 y74_1 t74_0 = some res → W p l e rmX11_benchPart s m args below meth c H locs 0 0 QQ (F0 m 74 ls []) := by
    intro y74_1 t74_0 H locs ls hl hP hD hS h
    unfold fX11_benchPart_J74 at h
    refine lv_iload_n hx hb dX11_benchPart_74 rfl (lv_at hl 1 rfl) ?_
    refine lv_if_eq (tgt := 91) hx hb dX11_benchPart_75 (by decide) (fun c1 => ?_) (fun c1 => ?_)
    · replace h := (if_pos c1).symm.trans h
      refine lv_iconst (v := 0) hx hb dX11_benchPart_91 (by decide) ?_
      exact hret 92 H locs ls ((0 : Int32), t74_0) (Option.some.inj h) hP hD hS (show isb (0 : Int32) = true by decide) dX11_benchPart_92
    · replace h := (if_neg c1).symm.trans h
      refine lv_aload_n hx hb dX11_benchPart_78 rfl (lv_at hl 0 rfl) ?_
      refine lv_bipush (v := 59) hx hb dX11_benchPart_79 (by decide) ?_
      obtain ⟨r2, hr2, h⟩ := bd_elim h
      refine ca_z (w' := [WX11 cy h0 a0 r2.2]) (rn_V (As := [.int (59 : Int32)]) (rest := []) ⟨hx, hb, hml, hown, hts⟩ (kX11_wantSign l D cy h0 a0 t74_0 (59 : Int32) r2 hr2 H.size) (cwV 1 hts gX11_benchPart_X11_wantSign rfl rfl rfl (by decide +kernel) ⟨Nat.le_of_ble_eq_true rfl, Nat.le_of_ble_eq_true rfl⟩) hK hN hP hD [0] rfl rfl (ci := 11) (q0 := 0) rfl rfl rfl rfl hl.1 rfl (Nat.le_of_ble_eq_true rfl) dX11_benchPart_81 ⟨Nat.le_refl 0, Nat.le_refl 0⟩) hP hD hS hA [0] ⟨rfl, rfl, rfl, rfl⟩ (fun b3 H locs hP hD hS => ?_)
      refine lv_if_eq (tgt := 91) hx hb dX11_benchPart_84 (by decide) (fun c4 => ?_) (fun c4 => ?_)
      · replace h := (if_pos c4).symm.trans h
        refine lv_iconst (v := 0) hx hb dX11_benchPart_91 (by decide) ?_
        exact hret 92 H locs ls ((0 : Int32), r2.2) (Option.some.inj h) hP hD hS (show isb (0 : Int32) = true by decide) dX11_benchPart_92
      · replace h := (if_neg c4).symm.trans h
        refine lv_iconst (v := 1) hx hb dX11_benchPart_87 (by decide) ?_
        refine lv_goto (tgt := 92) hx hb dX11_benchPart_88 (by decide) ?_
        exact hret 92 H locs ls ((1 : Int32), r2.2) (Option.some.inj h) hP hD hS (show isb (1 : Int32) = true by decide) dX11_benchPart_92
  refine lv_aload_n hx hb dX11_benchPart_0 rfl (lv_at hl 0 rfl) ?_
  refine va_ldcS hx hb hown hX.1.2 dX11_benchPart_1 ?_
  obtain ⟨r5, hr5, h⟩ := bd_elim h
  refine ca_i (w' := [WX11 cy h0 a0 s0]) (rn_V2 (As := [.ref (S 2)]) (rest := []) ⟨hx, hb, hml, hown, hts⟩ (kX11_inWords S l D cy h0 a0 s0 r5 hr5 H.size) (cwV 1 hts gX11_benchPart_X11_inWords rfl rfl rfl (by decide +kernel) ⟨Nat.le_of_ble_eq_true rfl, Nat.le_of_ble_eq_true rfl⟩) hK hN hX hP hD hS hA [0] rfl rfl (ci := 11) (q0 := 0) rfl rfl rfl rfl hl.1 rfl (Nat.le_of_ble_eq_true rfl) dX11_benchPart_3 ⟨Nat.le_refl 0, Nat.le_refl 0⟩) hP hD hS hA [0] ⟨rfl, rfl, rfl, rfl⟩ (fun H locs hP hD hS => ?_)
  by_cases c6 : r5 = (0 : Int32)
  · replace h := (if_pos c6).symm.trans h
    refine lv_tableIn (tgt := 36) hx hb dX11_benchPart_6 (by rw [c6]; decide) (by rw [c6]; decide) (by rw [c6]; rfl) (by decide) ?_
    refine lv_aload_n hx hb dX11_benchPart_36 rfl (lv_at hl 0 rfl) ?_
    obtain ⟨r7, hr7, h⟩ := bd_elim h
    refine ca_z (w' := [WX11 cy h0 a0 r7.2]) (rn_V2 (As := []) (rest := []) ⟨hx, hb, hml, hown, hts⟩ (kX11_aFarmer S l D cy h0 a0 s0 r7 hr7 H.size) (cwV 0 hts gX11_benchPart_X11_aFarmer rfl rfl rfl (by decide +kernel) ⟨Nat.le_of_ble_eq_true rfl, Nat.le_of_ble_eq_true rfl⟩) hK hN hX hP hD hS hA [0] rfl rfl (ci := 11) (q0 := 0) rfl rfl rfl rfl hl.1 rfl (Nat.le_of_ble_eq_true rfl) dX11_benchPart_37 ⟨Nat.le_refl 0, Nat.le_refl 0⟩) hP hD hS hA [0] ⟨rfl, rfl, rfl, rfl⟩ (fun b8 H locs hP hD hS => ?_)
    refine lv_istore_n (lv' := [(1, .int r7.1), (0, .ref h0)]) hx hb dX11_benchPart_40 rfl hl (by decide) rfl (fun ls hl => ?_)
    refine lv_goto (tgt := 74) hx hb dX11_benchPart_41 (by decide) ?_
    exact J74 r7.1 r7.2 H locs ls (lv_sub hl [1, 0] rfl) hP hD hS h
  replace h := (if_neg c6).symm.trans h
  by_cases c9 : r5 = (1 : Int32)
  · replace h := (if_pos c9).symm.trans h
    refine lv_tableIn (tgt := 44) hx hb dX11_benchPart_6 (by rw [c9]; decide) (by rw [c9]; decide) (by rw [c9]; rfl) (by decide) ?_
    refine lv_aload_n hx hb dX11_benchPart_44 rfl (lv_at hl 0 rfl) ?_
    obtain ⟨r10, hr10, h⟩ := bd_elim h
    refine ca_z (w' := [WX11 cy h0 a0 r10.2]) (rn_V2 (As := []) (rest := []) ⟨hx, hb, hml, hown, hts⟩ (kX11_aDislike S l D cy h0 a0 s0 r10 hr10 H.size) (cwV 0 hts gX11_benchPart_X11_aDislike rfl rfl rfl (by decide +kernel) ⟨Nat.le_of_ble_eq_true rfl, Nat.le_of_ble_eq_true rfl⟩) hK hN hX hP hD hS hA [0] rfl rfl (ci := 11) (q0 := 0) rfl rfl rfl rfl hl.1 rfl (Nat.le_of_ble_eq_true rfl) dX11_benchPart_45 ⟨Nat.le_refl 0, Nat.le_refl 0⟩) hP hD hS hA [0] ⟨rfl, rfl, rfl, rfl⟩ (fun b11 H locs hP hD hS => ?_)
    refine lv_istore_n (lv' := [(1, .int r10.1), (0, .ref h0)]) hx hb dX11_benchPart_48 rfl hl (by decide) rfl (fun ls hl => ?_)
    refine lv_goto (tgt := 74) hx hb dX11_benchPart_49 (by decide) ?_
    exact J74 r10.1 r10.2 H locs ls (lv_sub hl [1, 0] rfl) hP hD hS h
  replace h := (if_neg c9).symm.trans h
  by_cases c12 : r5 = (2 : Int32)
  · replace h := (if_pos c12).symm.trans h
    refine lv_tableIn (tgt := 52) hx hb dX11_benchPart_6 (by rw [c12]; decide) (by rw [c12]; decide) (by rw [c12]; rfl) (by decide) ?_
    refine lv_aload_n hx hb dX11_benchPart_52 rfl (lv_at hl 0 rfl) ?_
    obtain ⟨r13, hr13, h⟩ := bd_elim h
    refine ca_z (w' := [WX11 cy h0 a0 r13.2]) (rn_V (As := []) (rest := []) ⟨hx, hb, hml, hown, hts⟩ (kX11_aWeather l D cy h0 a0 s0 r13 hr13 H.size) (cwV 0 hts gX11_benchPart_X11_aWeather rfl rfl rfl (by decide +kernel) ⟨Nat.le_of_ble_eq_true rfl, Nat.le_of_ble_eq_true rfl⟩) hK hN hP hD [0] rfl rfl (ci := 11) (q0 := 0) rfl rfl rfl rfl hl.1 rfl (Nat.le_of_ble_eq_true rfl) dX11_benchPart_53 ⟨Nat.le_refl 0, Nat.le_refl 0⟩) hP hD hS hA [0] ⟨rfl, rfl, rfl, rfl⟩ (fun b14 H locs hP hD hS => ?_)
    refine lv_istore_n (lv' := [(1, .int r13.1), (0, .ref h0)]) hx hb dX11_benchPart_56 rfl hl (by decide) rfl (fun ls hl => ?_)
    refine lv_goto (tgt := 74) hx hb dX11_benchPart_57 (by decide) ?_
    exact J74 r13.1 r13.2 H locs ls (lv_sub hl [1, 0] rfl) hP hD hS h
  replace h := (if_neg c12).symm.trans h
  by_cases c15 : r5 = (3 : Int32)
  · replace h := (if_pos c15).symm.trans h
    refine lv_tableIn (tgt := 60) hx hb dX11_benchPart_6 (by rw [c15]; decide) (by rw [c15]; decide) (by rw [c15]; rfl) (by decide) ?_
    refine lv_aload_n hx hb dX11_benchPart_60 rfl (lv_at hl 0 rfl) ?_
    obtain ⟨r16, hr16, h⟩ := bd_elim h
    refine ca_z (w' := [WX11 cy h0 a0 r16.2]) (rn_V2 (As := []) (rest := []) ⟨hx, hb, hml, hown, hts⟩ (kX11_aVote S l D cy h0 a0 s0 r16 hr16 H.size) (cwV 0 hts gX11_benchPart_X11_aVote rfl rfl rfl (by decide +kernel) ⟨Nat.le_of_ble_eq_true rfl, Nat.le_of_ble_eq_true rfl⟩) hK hN hX hP hD hS hA [0] rfl rfl (ci := 11) (q0 := 0) rfl rfl rfl rfl hl.1 rfl (Nat.le_of_ble_eq_true rfl) dX11_benchPart_61 ⟨Nat.le_refl 0, Nat.le_refl 0⟩) hP hD hS hA [0] ⟨rfl, rfl, rfl, rfl⟩ (fun b17 H locs hP hD hS => ?_)
    refine lv_istore_n (lv' := [(1, .int r16.1), (0, .ref h0)]) hx hb dX11_benchPart_64 rfl hl (by decide) rfl (fun ls hl => ?_)
    refine lv_goto (tgt := 74) hx hb dX11_benchPart_65 (by decide) ?_
    exact J74 r16.1 r16.2 H locs ls (lv_sub hl [1, 0] rfl) hP hD hS h
  replace h := (if_neg c15).symm.trans h
  have ic6 : r5.toInt ≠ 0 := fun z => c6 (Int32.toInt_inj.mp (z.trans (by decide)))
  have ic9 : r5.toInt ≠ 1 := fun z => c9 (Int32.toInt_inj.mp (z.trans (by decide)))
  have ic12 : r5.toInt ≠ 2 := fun z => c12 (Int32.toInt_inj.mp (z.trans (by decide)))
  have ic15 : r5.toInt ≠ 3 := fun z => c15 (Int32.toInt_inj.mp (z.trans (by decide)))
  have hsw : r5.toInt < 0 ∨ 3 < r5.toInt := by omega
  refine lv_tdf (tgt := 68) hx hb dX11_benchPart_6 ?_ (by decide) ?_
  · rcases hsw with z | z
    · exact Or.inl z
    · exact Or.inr (Or.inl z)
  refine lv_aload_n hx hb dX11_benchPart_68 rfl (lv_at hl 0 rfl) ?_
  refine lv_iconst (v := 2) hx hb dX11_benchPart_69 (by decide) ?_
  obtain ⟨r18, hr18, h⟩ := lt_elim h
  refine ca_z (w' := [WX11 cy h0 a0 r18.2]) (rn_V (As := [.int (2 : Int32)]) (rest := []) ⟨hx, hb, hml, hown, hts⟩ (kX11_fails l D cy h0 a0 s0 (2 : Int32) r18 hr18.symm H.size) (cwV 1 hts gX11_benchPart_X11_fails rfl rfl rfl (by decide +kernel) ⟨Nat.le_of_ble_eq_true rfl, Nat.le_of_ble_eq_true rfl⟩) hK hN hP hD [0] rfl rfl (ci := 11) (q0 := 0) rfl rfl rfl rfl hl.1 rfl (Nat.le_of_ble_eq_true rfl) dX11_benchPart_70 ⟨Nat.le_refl 0, Nat.le_refl 0⟩) hP hD hS hA [0] ⟨rfl, rfl, rfl, rfl⟩ (fun b19 H locs hP hD hS => ?_)
  exact hret 73 H locs ls (r18.1, r18.2) (Option.some.inj h) hP hD hS b19 dX11_benchPart_73
set_option maxRecDepth 20000 in
theorem ggX11_bench_X11_begins : GoodIn wsX11_bench wsX11_begins := goodIn_r _ [10, 11, 12, 13, 14, 3, 15, 16, 17, 18, 19, 20, 9, 21, 22, 23, 2, 24, 25, 26, 27, 28, 29, 30, 31, 32, 33, 34, 35, 36, 37, 38, 200, 201, 202, 203, 204, 205, 206, 207, 208, 209, 210, 211, 212, 213, 214, 215, 216, 217, 218, 219, 220, 221, 222, 223, 224, 225, 226, 227, 228, 229, 230, 231, 232, 233, 234, 235, 236, 237] (by decide +kernel) (by decide +kernel)
set_option maxRecDepth 20000 in
theorem gX11_bench_X11_begins : GoodIn wsX11_bench (wsV RX11 218 RX11 yX11_begins wsX11_begins) := goodIn_app (goodIn_of _ (by decide +kernel)) ggX11_bench_X11_begins
set_option maxRecDepth 20000 in
theorem ggX11_bench_X11_refuse : GoodIn wsX11_bench wsX11_refuse := goodIn_r _ [42, 43, 200, 201, 202, 203, 204, 205, 206, 207, 208, 209, 210, 211, 212, 213, 214, 215, 216, 217, 218, 219, 220, 221, 222, 223, 224, 225, 226, 227, 228, 229, 230, 231, 232, 233, 234, 235, 236, 237] (by decide +kernel) (by decide +kernel)
set_option maxRecDepth 20000 in
theorem gX11_bench_X11_refuse : GoodIn wsX11_bench (wsV RX11 75 RX11 yX11_refuse wsX11_refuse) := goodIn_app (goodIn_of _ (by decide +kernel)) ggX11_bench_X11_refuse
set_option maxRecDepth 20000 in
theorem ggX11_bench_X11_plain : GoodIn wsX11_bench wsX11_plain := goodIn_r _ [47, 4, 200, 201, 202, 203, 204, 205, 206, 207, 208, 209, 210, 211, 212, 213, 214, 215, 216, 217, 218, 219, 220, 221, 222, 223, 224, 225, 226, 227, 228, 229, 230, 231, 232, 233, 234, 235, 236, 237] (by decide +kernel) (by decide +kernel)
set_option maxRecDepth 20000 in
theorem gX11_bench_X11_plain : GoodIn wsX11_bench (wsV RX11 65 RX11 yX11_plain wsX11_plain) := goodIn_app (goodIn_of _ (by decide +kernel)) ggX11_bench_X11_plain
set_option maxRecDepth 20000 in
theorem ggX11_bench_X11_benchPart : GoodIn wsX11_bench wsX11_benchPart := goodIn_r _ [51, 52, 53, 54, 9, 55, 2, 16, 22, 56, 57, 58, 59, 60, 61, 62, 63, 64, 65, 66, 67, 68, 69, 70, 71, 72, 73, 74, 75, 76, 77, 78, 79, 80, 81, 82, 83, 84, 85, 86, 87, 88, 89, 90, 91, 92, 93, 94, 95, 96, 97, 98, 99, 100, 101, 102, 103, 104, 29, 30, 31, 32, 12, 13, 105, 106, 107, 108, 4, 5, 109, 110, 111, 112, 113, 114, 115, 116, 3, 15, 18, 19, 20, 21, 23, 24, 25, 26, 27, 28, 33, 34, 35, 36, 37, 38, 117, 118, 119, 120, 121, 122, 123, 124, 125, 126, 127, 128, 129, 130, 131, 132, 133, 134, 135, 136, 137, 138, 139, 140, 141, 142, 143, 144, 145, 146, 147, 148, 149, 150, 151, 152, 153, 154, 155, 156, 157, 158, 159, 1, 160, 161, 162, 163, 164, 165, 166, 167, 200, 201, 202, 203, 204, 205, 206, 207, 208, 209, 210, 211, 212, 213, 214, 215, 216, 217, 218, 219, 220, 221, 222, 223, 224, 225, 226, 227, 228, 229, 230, 231, 232, 233, 234, 235, 236, 237] (by decide +kernel) (by decide +kernel)
set_option maxRecDepth 20000 in
theorem gX11_bench_X11_benchPart : GoodIn wsX11_bench (wsV RX11 222 RX11 yX11_benchPart wsX11_benchPart) := goodIn_app (goodIn_of _ (by decide +kernel)) ggX11_bench_X11_benchPart
set_option maxRecDepth 20000 in
theorem ggX11_bench_X11_twingeRow : GoodIn wsX11_bench wsX11_twingeRow := goodIn_r _ [170] (by decide +kernel) (by decide +kernel)
set_option maxRecDepth 20000 in
theorem gX11_bench_X11_twingeRow : GoodIn wsX11_bench (va_wsS RX11 225 yX11_twingeRow wsX11_twingeRow) := goodIn_app (goodIn_of _ (by decide +kernel)) ggX11_bench_X11_twingeRow
set_option maxRecDepth 20000 in
theorem ggX11_bench_X11_shouldFeel : GoodIn wsX11_bench wsX11_shouldFeel := goodIn_r _ [174, 175, 176, 177, 9, 178, 4, 110, 111, 112, 179, 180, 181, 182, 183, 184, 185, 186, 187, 188, 189, 190, 200, 201, 202, 203, 204, 205, 206, 207, 208, 209, 210, 211, 212, 213, 214, 215, 216, 217, 218, 219, 220, 221, 222, 223, 224, 225, 226, 227, 228, 229, 230, 231, 232, 233, 234, 235, 236, 237] (by decide +kernel) (by decide +kernel)
set_option maxRecDepth 20000 in
theorem gX11_bench_X11_shouldFeel : GoodIn wsX11_bench (wsV RX11 228 RX11 yX11_shouldFeel wsX11_shouldFeel) := goodIn_app (goodIn_of _ (by decide +kernel)) ggX11_bench_X11_shouldFeel
set_option maxRecDepth 20000 in
theorem ggX11_bench_X11_taken : GoodIn wsX11_bench wsX11_taken := goodIn_r _ [194, 3, 195, 39, 40, 41, 9, 42, 43, 196, 197, 198, 199, 200, 201, 202, 203, 204, 205, 206, 207, 208, 209, 210, 211, 212, 213, 214, 215, 216, 217, 218, 219, 220, 221, 222, 223, 224, 225, 226, 227, 228, 229, 230, 231, 232, 233, 234, 235, 236, 237] (by decide +kernel) (by decide +kernel)
set_option maxRecDepth 20000 in
theorem gX11_bench_X11_taken : GoodIn wsX11_bench (wsV RX11 231 RX11 yX11_taken wsX11_taken) := goodIn_app (goodIn_of _ (by decide +kernel)) ggX11_bench_X11_taken
theorem dX11_bench_0 : decode cX11_bench 0 = .ok (.aload_n 0, 1) := by decide +kernel
theorem dX11_bench_1 : decode cX11_bench 1 = .ok (.iload_n 1, 1) := by decide +kernel
theorem dX11_bench_2 : decode cX11_bench 2 = .ok (.sipush 900, 3) := by decide +kernel
theorem dX11_bench_5 : decode cX11_bench 5 = .ok (.invokevirtual 218, 3) := by decide +kernel
theorem dX11_bench_8 : decode cX11_bench 8 = .ok (.ifCond .ne 9, 3) := by decide +kernel
theorem dX11_bench_11 : decode cX11_bench 11 = .ok (.aload_n 0, 1) := by decide +kernel
theorem dX11_bench_12 : decode cX11_bench 12 = .ok (.iconst 1, 1) := by decide +kernel
theorem dX11_bench_13 : decode cX11_bench 13 = .ok (.invokevirtual 75, 3) := by decide +kernel
theorem dX11_bench_16 : decode cX11_bench 16 = .ok (.ireturn, 1) := by decide +kernel
theorem dX11_bench_17 : decode cX11_bench 17 = .ok (.aload_n 0, 1) := by decide +kernel
theorem dX11_bench_18 : decode cX11_bench 18 = .ok (.sipush 4160, 3) := by decide +kernel
theorem dX11_bench_21 : decode cX11_bench 21 = .ok (.invokevirtual 65, 3) := by decide +kernel
theorem dX11_bench_24 : decode cX11_bench 24 = .ok (.aload_n 0, 1) := by decide +kernel
theorem dX11_bench_25 : decode cX11_bench 25 = .ok (.iconst 0, 1) := by decide +kernel
theorem dX11_bench_26 : decode cX11_bench 26 = .ok (.putfield 198, 3) := by decide +kernel
theorem dX11_bench_29 : decode cX11_bench 29 = .ok (.iconst 1, 1) := by decide +kernel
theorem dX11_bench_30 : decode cX11_bench 30 = .ok (.istore_n 2, 1) := by decide +kernel
theorem dX11_bench_31 : decode cX11_bench 31 = .ok (.iload_n 2, 1) := by decide +kernel
theorem dX11_bench_32 : decode cX11_bench 32 = .ok (.ifCond .eq 18, 3) := by decide +kernel
theorem dX11_bench_35 : decode cX11_bench 35 = .ok (.aload_n 0, 1) := by decide +kernel
theorem dX11_bench_36 : decode cX11_bench 36 = .ok (.getfield 120, 3) := by decide +kernel
theorem dX11_bench_39 : decode cX11_bench 39 = .ok (.ifCond .eq 11, 3) := by decide +kernel
theorem dX11_bench_42 : decode cX11_bench 42 = .ok (.aload_n 0, 1) := by decide +kernel
theorem dX11_bench_43 : decode cX11_bench 43 = .ok (.invokevirtual 222, 3) := by decide +kernel
theorem dX11_bench_46 : decode cX11_bench 46 = .ok (.istore_n 2, 1) := by decide +kernel
theorem dX11_bench_47 : decode cX11_bench 47 = .ok (.goto (-16), 3) := by decide +kernel
theorem dX11_bench_50 : decode cX11_bench 50 = .ok (.aload_n 0, 1) := by decide +kernel
theorem dX11_bench_51 : decode cX11_bench 51 = .ok (.getfield 145, 3) := by decide +kernel
theorem dX11_bench_54 : decode cX11_bench 54 = .ok (.ifCond .ne 127, 3) := by decide +kernel
theorem dX11_bench_57 : decode cX11_bench 57 = .ok (.iconst 0, 1) := by decide +kernel
theorem dX11_bench_58 : decode cX11_bench 58 = .ok (.istore_n 3, 1) := by decide +kernel
theorem dX11_bench_59 : decode cX11_bench 59 = .ok (.iload_n 3, 1) := by decide +kernel
theorem dX11_bench_60 : decode cX11_bench 60 = .ok (.sipush 1040, 3) := by decide +kernel
theorem dX11_bench_63 : decode cX11_bench 63 = .ok (.if_icmp .ge 25, 3) := by decide +kernel
theorem dX11_bench_66 : decode cX11_bench 66 = .ok (.aload_n 0, 1) := by decide +kernel
theorem dX11_bench_67 : decode cX11_bench 67 = .ok (.getfield 7, 3) := by decide +kernel
theorem dX11_bench_70 : decode cX11_bench 70 = .ok (.iload_n 3, 1) := by decide +kernel
theorem dX11_bench_71 : decode cX11_bench 71 = .ok (.aload_n 0, 1) := by decide +kernel
theorem dX11_bench_72 : decode cX11_bench 72 = .ok (.getfield 7, 3) := by decide +kernel
theorem dX11_bench_75 : decode cX11_bench 75 = .ok (.sipush 4160, 3) := by decide +kernel
theorem dX11_bench_78 : decode cX11_bench 78 = .ok (.iload_n 3, 1) := by decide +kernel
theorem dX11_bench_79 : decode cX11_bench 79 = .ok (.iadd, 1) := by decide +kernel
theorem dX11_bench_80 : decode cX11_bench 80 = .ok (.iaload, 1) := by decide +kernel
theorem dX11_bench_81 : decode cX11_bench 81 = .ok (.iastore, 1) := by decide +kernel
theorem dX11_bench_82 : decode cX11_bench 82 = .ok (.iinc 3 1, 3) := by decide +kernel
theorem dX11_bench_85 : decode cX11_bench 85 = .ok (.goto (-26), 3) := by decide +kernel
theorem dX11_bench_88 : decode cX11_bench 88 = .ok (.iconst 0, 1) := by decide +kernel
theorem dX11_bench_89 : decode cX11_bench 89 = .ok (.istore_n 3, 1) := by decide +kernel
theorem dX11_bench_90 : decode cX11_bench 90 = .ok (.iload_n 3, 1) := by decide +kernel
theorem dX11_bench_91 : decode cX11_bench 91 = .ok (.bipush 8, 2) := by decide +kernel
theorem dX11_bench_93 : decode cX11_bench 93 = .ok (.if_icmp .ge 24, 3) := by decide +kernel
theorem dX11_bench_96 : decode cX11_bench 96 = .ok (.aload_n 0, 1) := by decide +kernel
theorem dX11_bench_97 : decode cX11_bench 97 = .ok (.getfield 13, 3) := by decide +kernel
theorem dX11_bench_100 : decode cX11_bench 100 = .ok (.iload_n 3, 1) := by decide +kernel
theorem dX11_bench_101 : decode cX11_bench 101 = .ok (.aload_n 0, 1) := by decide +kernel
theorem dX11_bench_102 : decode cX11_bench 102 = .ok (.getfield 13, 3) := by decide +kernel
theorem dX11_bench_105 : decode cX11_bench 105 = .ok (.bipush 32, 2) := by decide +kernel
theorem dX11_bench_107 : decode cX11_bench 107 = .ok (.iload_n 3, 1) := by decide +kernel
theorem dX11_bench_108 : decode cX11_bench 108 = .ok (.iadd, 1) := by decide +kernel
theorem dX11_bench_109 : decode cX11_bench 109 = .ok (.laload, 1) := by decide +kernel
theorem dX11_bench_110 : decode cX11_bench 110 = .ok (.lastore, 1) := by decide +kernel
theorem dX11_bench_111 : decode cX11_bench 111 = .ok (.iinc 3 1, 3) := by decide +kernel
theorem dX11_bench_114 : decode cX11_bench 114 = .ok (.goto (-24), 3) := by decide +kernel
theorem dX11_bench_117 : decode cX11_bench 117 = .ok (.iconst 0, 1) := by decide +kernel
theorem dX11_bench_118 : decode cX11_bench 118 = .ok (.istore_n 3, 1) := by decide +kernel
theorem dX11_bench_119 : decode cX11_bench 119 = .ok (.iload_n 3, 1) := by decide +kernel
theorem dX11_bench_120 : decode cX11_bench 120 = .ok (.aload_n 0, 1) := by decide +kernel
theorem dX11_bench_121 : decode cX11_bench 121 = .ok (.getfield 7, 3) := by decide +kernel
theorem dX11_bench_124 : decode cX11_bench 124 = .ok (.iconst 0, 1) := by decide +kernel
theorem dX11_bench_125 : decode cX11_bench 125 = .ok (.iaload, 1) := by decide +kernel
theorem dX11_bench_126 : decode cX11_bench 126 = .ok (.if_icmp .ge 55, 3) := by decide +kernel
theorem dX11_bench_129 : decode cX11_bench 129 = .ok (.iconst 0, 1) := by decide +kernel
theorem dX11_bench_130 : decode cX11_bench 130 = .ok (.istore 4, 2) := by decide +kernel
theorem dX11_bench_132 : decode cX11_bench 132 = .ok (.iload 4, 2) := by decide +kernel
theorem dX11_bench_134 : decode cX11_bench 134 = .ok (.aload_n 0, 1) := by decide +kernel
theorem dX11_bench_135 : decode cX11_bench 135 = .ok (.getfield 7, 3) := by decide +kernel
theorem dX11_bench_138 : decode cX11_bench 138 = .ok (.iconst 1, 1) := by decide +kernel
theorem dX11_bench_139 : decode cX11_bench 139 = .ok (.iaload, 1) := by decide +kernel
theorem dX11_bench_140 : decode cX11_bench 140 = .ok (.if_icmp .ge 35, 3) := by decide +kernel
theorem dX11_bench_143 : decode cX11_bench 143 = .ok (.aload_n 0, 1) := by decide +kernel
theorem dX11_bench_144 : decode cX11_bench 144 = .ok (.getfield 7, 3) := by decide +kernel
theorem dX11_bench_147 : decode cX11_bench 147 = .ok (.iload_n 3, 1) := by decide +kernel
theorem dX11_bench_148 : decode cX11_bench 148 = .ok (.iload 4, 2) := by decide +kernel
theorem dX11_bench_150 : decode cX11_bench 150 = .ok (.invokestatic 225, 3) := by decide +kernel
theorem dX11_bench_153 : decode cX11_bench 153 = .ok (.aload_n 0, 1) := by decide +kernel
theorem dX11_bench_154 : decode cX11_bench 154 = .ok (.iload_n 3, 1) := by decide +kernel
theorem dX11_bench_155 : decode cX11_bench 155 = .ok (.iload 4, 2) := by decide +kernel
theorem dX11_bench_157 : decode cX11_bench 157 = .ok (.invokevirtual 228, 3) := by decide +kernel
theorem dX11_bench_160 : decode cX11_bench 160 = .ok (.ifCond .eq 7, 3) := by decide +kernel
theorem dX11_bench_163 : decode cX11_bench 163 = .ok (.iconst 1, 1) := by decide +kernel
theorem dX11_bench_164 : decode cX11_bench 164 = .ok (.goto 4, 3) := by decide +kernel
theorem dX11_bench_167 : decode cX11_bench 167 = .ok (.iconst 0, 1) := by decide +kernel
theorem dX11_bench_168 : decode cX11_bench 168 = .ok (.iastore, 1) := by decide +kernel
theorem dX11_bench_169 : decode cX11_bench 169 = .ok (.iinc 4 1, 3) := by decide +kernel
theorem dX11_bench_172 : decode cX11_bench 172 = .ok (.goto (-40), 3) := by decide +kernel
theorem dX11_bench_175 : decode cX11_bench 175 = .ok (.iinc 3 1, 3) := by decide +kernel
theorem dX11_bench_178 : decode cX11_bench 178 = .ok (.goto (-59), 3) := by decide +kernel
theorem dX11_bench_181 : decode cX11_bench 181 = .ok (.aload_n 0, 1) := by decide +kernel
theorem dX11_bench_182 : decode cX11_bench 182 = .ok (.aload_n 0, 1) := by decide +kernel
theorem dX11_bench_183 : decode cX11_bench 183 = .ok (.getfield 7, 3) := by decide +kernel
theorem dX11_bench_186 : decode cX11_bench 186 = .ok (.iconst 0, 1) := by decide +kernel
theorem dX11_bench_187 : decode cX11_bench 187 = .ok (.iaload, 1) := by decide +kernel
theorem dX11_bench_188 : decode cX11_bench 188 = .ok (.invokevirtual 231, 3) := by decide +kernel
theorem dX11_bench_191 : decode cX11_bench 191 = .ok (.ireturn, 1) := by decide +kernel
abbrev rmX11_bench : Room := { frames := 9, cells := 0, slots := 0, locals := 197 }
set_option maxHeartbeats 4000000 in
set_option maxRecDepth 100000 in
theorem kX11_bench (S : Nat → Nat) (l : Launch) (D : va_G) (cy : Nat → ClassId) (h0 : Nat) (a0 : Nat → Nat) (s0 : Rc) (p1 : Int32) (res : Int32 × Rc) (h : fX11_bench p1 s0 = some res) : CI2 S l D cy yX11_bench wsX11_bench rmX11_bench [.ref h0, .int p1] (flat [WX11 cy h0 a0 s0]) (flat [WX11 cy h0 a0 res.2]) res.1 := by
  refine CI2.of (cc := cX11_bench) (maxL := 5) (by decide) rfl (Nat.le_of_ble_eq_true rfl) ?_
  intro p e s m args below meth c A QQ ls E hX hr
  obtain ⟨hx, hb, hml, hown, hts, hK, hN, hP, hD, hA, hl⟩ := E
  have hret : ∀ (pc : Nat) (H : Heap) (locs : List Loc) (ls : Array Slot) (u : Int32 × Rc), u = res → va_P D vwCl (flat [WX11 cy h0 a0 u.2]) H → va_D A (flat [WX11 cy h0 a0 u.2]) → va_S A s.heap H locs → decode cX11_bench pc = .ok (.ireturn, 1) → W p l e rmX11_bench s m args below meth c H locs 0 0 QQ (F0 m pc ls [.int u.1]) := by
    intro pc H locs ls u hu hP hD hS hd; subst hu; exact hr pc H locs ls _ rfl hP hD hS hd
  clear hr
  have hl : lv_has ls 5 [(0, .ref h0), (1, .int p1)] := hl
  have hinX11 : ∀ w ∈ wsX110, w ∈ wsX11_bench := fun _ h => List.mem_cons_of_mem _ (List.mem_append_right _ h)
  unfold fX11_bench at h
  suffices key : ∀ (H : Heap) (locs : List Loc), va_P D vwCl (flat [WX11 cy h0 a0 s0]) H → va_S A s.heap H locs → W p l e rmX11_bench s m args below meth c H locs 0 0 QQ (F0 m 0 ls []) from key _ _ hP va_S.rf
  clear hP
  intro H locs hP hS
  have J181 : ∀ (t181_0 : Rc) (H : Heap) (locs : List Loc) (ls : Array Slot), lv_has ls 5 [(0, .ref h0)] → va_P D vwCl (flat [WX11 cy h0 a0 t181_0]) H → va_D A (flat [WX11 cy h0 a0 t181_0]) → va_S A s.heap H locs → fX11_bench_J181 t181_0 = some res → W p l e rmX11_bench s m args below meth c H locs 0 0 QQ (F0 m 181 ls []) := by
    intro t181_0 H locs ls hl hP hD hS h
    unfold fX11_bench_J181 at h
    refine lv_aload_n hx hb dX11_bench_181 rfl (lv_at hl 0 rfl) ?_
    refine lv_aload_n hx hb dX11_bench_182 rfl (lv_at hl 0 rfl) ?_
    refine va_get (D := D) (ci := 11) (v := .ref (a0 0)) (C := RX11) (T := TX11) (N := 38) hx hb hts hinX11 hown hK hP 0 rfl rfl 0 (by decide) (hts (.fieldLink RX11 7 "KneeBenchModel" "at" "[I") (List.mem_of_getElem? (i := 4) rfl)) (fun _ h9 => h9) rfl dX11_bench_183 ?_
    refine lv_iconst (v := 0) hx hb dX11_bench_186 (by decide) ?_
    refine va_iald hx hb hK hP 1 1 rfl rfl (inb_in (by decide)) dX11_bench_187 ?_
    obtain ⟨r1, hr1, h⟩ := lt_elim h
    refine ca_i (w' := [WX11 cy h0 a0 r1.2]) (rn_V (As := [.int (ga t181_0 0 (0 : Int32).toNatClampNeg)]) (rest := []) ⟨hx, hb, hml, hown, hts⟩ (kX11_taken l D cy h0 a0 t181_0 (ga t181_0 0 (0 : Int32).toNatClampNeg) r1 hr1.symm H.size) (cwV 1 hts gX11_bench_X11_taken rfl rfl rfl (by decide +kernel) ⟨Nat.le_of_ble_eq_true rfl, Nat.le_of_ble_eq_true rfl⟩) hK hN hP hD [0] rfl rfl (ci := 11) (q0 := 0) rfl rfl rfl rfl hl.1 rfl (Nat.le_of_ble_eq_true rfl) dX11_bench_188 ⟨Nat.le_refl 0, Nat.le_refl 0⟩) hP hD hS hA [0] ⟨rfl, rfl, rfl, rfl⟩ (fun H locs hP hD hS => ?_)
    exact hret 191 H locs ls (r1.1, r1.2) (Option.some.inj h) hP hD hS dX11_bench_191
  have J50 : ∀ (t50_0 : Rc) (H : Heap) (locs : List Loc) (ls : Array Slot), lv_has ls 5 [(0, .ref h0)] → va_P D vwCl (flat [WX11 cy h0 a0 t50_0]) H → va_D A (flat [WX11 cy h0 a0 t50_0]) → va_S A s.heap H locs → fX11_bench_J50 t50_0 = some res → W p l e rmX11_bench s m args below meth c H locs 0 0 QQ (F0 m 50 ls []) := by
    intro t50_0 H locs ls hl hP hD hS h
    unfold fX11_bench_J50 at h
    refine lv_aload_n hx hb dX11_bench_50 rfl (lv_at hl 0 rfl) ?_
    refine va_get (D := D) (ci := 11) (v := .int (gi t50_0 18)) (C := RX11) (T := TX11) (N := 38) hx hb hts hinX11 hown hK hP 0 rfl rfl 18 (by decide) (hts (.fieldLink RX11 145 "KneeBenchModel" "faults" "I") (List.mem_of_getElem? (i := 3) rfl)) (fun _ h9 => h9) rfl dX11_bench_51 ?_
    refine lv_if_ne (tgt := 181) hx hb dX11_bench_54 (by decide) (fun c2 => ?_) (fun c2 => ?_)
    · replace h := (if_neg c2).symm.trans h
      exact J181 t50_0 H locs ls (lv_sub hl [0] rfl) hP hD hS h
    · replace h := (if_pos c2).symm.trans h
      refine lv_iconst (v := 0) hx hb dX11_bench_57 (by decide) ?_
      refine lv_istore_n (lv' := [(3, .int (0 : Int32)), (0, .ref h0)]) hx hb dX11_bench_58 rfl hl (by decide) rfl (fun ls hl => ?_)
      have L59 : ∀ (n : Nat) (q59 : Int32 × Rc) (o : Rc), loopO (fX11_bench_L59) n q59 = some o → ∀ (H : Heap) (locs : List Loc) (ls : Array Slot), lv_has ls 5 [(0, .ref h0), (3, .int q59.1)] → va_P D vwCl (flat [WX11 cy h0 a0 q59.2]) H → va_D A (flat [WX11 cy h0 a0 q59.2]) → va_S A s.heap H locs → ∀ (kk88 : ∀ (H : Heap) (locs : List Loc) (ls : Array Slot), lv_has ls 5 [(0, .ref h0)] → va_P D vwCl (flat [WX11 cy h0 a0 o]) H → va_D A (flat [WX11 cy h0 a0 o]) → va_S A s.heap H locs → W p l e rmX11_bench s m args below meth c H locs 0 0 QQ (F0 m 88 ls [])), W p l e rmX11_bench s m args below meth c H locs 0 0 QQ (F0 m 59 ls []) := by
        intro n
        induction n with
        | zero => intro q59 o h; exact absurd h (by rw [loopO_zero]; intro z; cases z)
        | succ n ih =>
          intro q59 o h H locs ls hl hP hD hS kk88
          obtain ⟨w, h, hgo, hst⟩ := loopO_elim h
          unfold fX11_bench_L59 at h
          refine lv_iload_n hx hb dX11_bench_59 rfl (lv_at hl 1 rfl) ?_
          refine lv_sipush (v := 1040) hx hb dX11_bench_60 (by decide) ?_
          refine lv_icmp_ge (tgt := 88) hx hb dX11_bench_63 (by decide) (fun c3 => ?_) (fun c3 => ?_)
          · replace h := (if_pos c3).symm.trans h
            have eo := hst _ (Option.some.inj h).symm
            subst eo
            exact kk88 H locs ls (lv_sub hl [0] rfl) hP hD hS
          · replace h := (if_neg c3).symm.trans h
            refine lv_aload_n hx hb dX11_bench_66 rfl (lv_at hl 0 rfl) ?_
            refine va_get (D := D) (ci := 11) (v := .ref (a0 0)) (C := RX11) (T := TX11) (N := 38) hx hb hts hinX11 hown hK hP 0 rfl rfl 0 (by decide) (hts (.fieldLink RX11 7 "KneeBenchModel" "at" "[I") (List.mem_of_getElem? (i := 4) rfl)) (fun _ h9 => h9) rfl dX11_bench_67 ?_
            refine lv_iload_n hx hb dX11_bench_70 rfl (lv_at hl 1 rfl) ?_
            refine lv_aload_n hx hb dX11_bench_71 rfl (lv_at hl 0 rfl) ?_
            refine va_get (D := D) (ci := 11) (v := .ref (a0 0)) (C := RX11) (T := TX11) (N := 38) hx hb hts hinX11 hown hK hP 0 rfl rfl 0 (by decide) (hts (.fieldLink RX11 7 "KneeBenchModel" "at" "[I") (List.mem_of_getElem? (i := 4) rfl)) (fun _ h9 => h9) rfl dX11_bench_72 ?_
            refine lv_sipush (v := 4160) hx hb dX11_bench_75 (by decide) ?_
            refine lv_iload_n hx hb dX11_bench_78 rfl (lv_at hl 1 rfl) ?_
            refine lv_iadd hx hb dX11_bench_79 ?_
            obtain ⟨g4, h⟩ := gd_elim h
            refine va_iald hx hb hK hP 1 1 rfl rfl (inb_in g4) dX11_bench_80 ?_
            obtain ⟨g5, h⟩ := gd_elim h
            obtain ⟨s0_6, es, h⟩ := lt_elim h
            refine va_iast hx hb hK hP hD hS 1 1 rfl rfl (inb_in g5) dX11_bench_81 (fun H locs hP hD hS => ?_)
            have hP : va_P D vwCl (flat [WX11 cy h0 a0 s0_6]) H := by rw [es]; exact hP
            have hD : va_D A (flat [WX11 cy h0 a0 s0_6]) := by rw [es]; exact hD
            clear es
            refine lv_iinc (v := (q59.1 + (1 : Int32))) (lv' := [(3, .int (q59.1 + (1 : Int32))), (0, .ref h0)]) hx hb dX11_bench_82 hl (k := 1) rfl rfl (by decide) rfl (fun ls hl => ?_)
            refine lv_goto (tgt := 59) hx hb dX11_bench_85 (by decide) ?_
            exact ih _ o (hgo _ (Option.some.inj h).symm) H locs ls (lv_sub hl [1, 0] rfl) hP hD hS kk88
      obtain ⟨o59, ho59, h⟩ := bd_elim h
      obtain ⟨n59, hn59⟩ := loopF_some ho59
      refine L59 n59 _ o59 hn59 H locs ls (lv_sub hl [1, 0] rfl) hP hD hS (fun H locs ls hl hP hD hS => ?_)
      refine lv_iconst (v := 0) hx hb dX11_bench_88 (by decide) ?_
      refine lv_istore_n (lv' := [(3, .int (0 : Int32)), (0, .ref h0)]) hx hb dX11_bench_89 rfl hl (by decide) rfl (fun ls hl => ?_)
      have L90 : ∀ (n : Nat) (q90 : Int32 × Rc) (o : Rc), loopO (fX11_bench_L90) n q90 = some o → ∀ (H : Heap) (locs : List Loc) (ls : Array Slot), lv_has ls 5 [(0, .ref h0), (3, .int q90.1)] → va_P D vwCl (flat [WX11 cy h0 a0 q90.2]) H → va_D A (flat [WX11 cy h0 a0 q90.2]) → va_S A s.heap H locs → ∀ (kk117 : ∀ (H : Heap) (locs : List Loc) (ls : Array Slot), lv_has ls 5 [(0, .ref h0)] → va_P D vwCl (flat [WX11 cy h0 a0 o]) H → va_D A (flat [WX11 cy h0 a0 o]) → va_S A s.heap H locs → W p l e rmX11_bench s m args below meth c H locs 0 0 QQ (F0 m 117 ls [])), W p l e rmX11_bench s m args below meth c H locs 0 0 QQ (F0 m 90 ls []) := by
        intro n
        induction n with
        | zero => intro q90 o h; exact absurd h (by rw [loopO_zero]; intro z; cases z)
        | succ n ih =>
          intro q90 o h H locs ls hl hP hD hS kk117
          obtain ⟨w, h, hgo, hst⟩ := loopO_elim h
          unfold fX11_bench_L90 at h
          refine lv_iload_n hx hb dX11_bench_90 rfl (lv_at hl 1 rfl) ?_
          refine lv_bipush (v := 8) hx hb dX11_bench_91 (by decide) ?_
          refine lv_icmp_ge (tgt := 117) hx hb dX11_bench_93 (by decide) (fun c7 => ?_) (fun c7 => ?_)
          · replace h := (if_pos c7).symm.trans h
            have eo := hst _ (Option.some.inj h).symm
            subst eo
            exact kk117 H locs ls (lv_sub hl [0] rfl) hP hD hS
          · replace h := (if_neg c7).symm.trans h
            refine lv_aload_n hx hb dX11_bench_96 rfl (lv_at hl 0 rfl) ?_
            refine va_get (D := D) (ci := 11) (v := .ref (a0 1)) (C := RX11) (T := TX11) (N := 38) hx hb hts hinX11 hown hK hP 0 rfl rfl 1 (by decide) (hts (.fieldLink RX11 13 "KneeBenchModel" "names" "[J") (List.mem_of_getElem? (i := 5) rfl)) (fun _ h9 => h9) rfl dX11_bench_97 ?_
            refine lv_iload_n hx hb dX11_bench_100 rfl (lv_at hl 1 rfl) ?_
            refine lv_aload_n hx hb dX11_bench_101 rfl (lv_at hl 0 rfl) ?_
            refine va_get (D := D) (ci := 11) (v := .ref (a0 1)) (C := RX11) (T := TX11) (N := 38) hx hb hts hinX11 hown hK hP 0 rfl rfl 1 (by decide) (hts (.fieldLink RX11 13 "KneeBenchModel" "names" "[J") (List.mem_of_getElem? (i := 5) rfl)) (fun _ h9 => h9) rfl dX11_bench_102 ?_
            refine lv_bipush (v := 32) hx hb dX11_bench_105 (by decide) ?_
            refine lv_iload_n hx hb dX11_bench_107 rfl (lv_at hl 1 rfl) ?_
            refine lv_iadd hx hb dX11_bench_108 ?_
            obtain ⟨g8, h⟩ := gd_elim h
            refine va_lald hx hb hK hP 2 2 rfl rfl (inb_in g8) dX11_bench_109 ?_
            obtain ⟨g9, h⟩ := gd_elim h
            obtain ⟨s0_10, es, h⟩ := lt_elim h
            refine va_last hx hb hK hP hD hS 2 2 rfl rfl (inb_in g9) dX11_bench_110 (fun H locs hP hD hS => ?_)
            have hP : va_P D vwCl (flat [WX11 cy h0 a0 s0_10]) H := by rw [es]; exact hP
            have hD : va_D A (flat [WX11 cy h0 a0 s0_10]) := by rw [es]; exact hD
            clear es
            refine lv_iinc (v := (q90.1 + (1 : Int32))) (lv' := [(3, .int (q90.1 + (1 : Int32))), (0, .ref h0)]) hx hb dX11_bench_111 hl (k := 1) rfl rfl (by decide) rfl (fun ls hl => ?_)
            refine lv_goto (tgt := 90) hx hb dX11_bench_114 (by decide) ?_
            exact ih _ o (hgo _ (Option.some.inj h).symm) H locs ls (lv_sub hl [1, 0] rfl) hP hD hS kk117
      obtain ⟨o90, ho90, h⟩ := bd_elim h
      obtain ⟨n90, hn90⟩ := loopF_some ho90
      refine L90 n90 _ o90 hn90 H locs ls (lv_sub hl [1, 0] rfl) hP hD hS (fun H locs ls hl hP hD hS => ?_)
      refine lv_iconst (v := 0) hx hb dX11_bench_117 (by decide) ?_
      refine lv_istore_n (lv' := [(3, .int (0 : Int32)), (0, .ref h0)]) hx hb dX11_bench_118 rfl hl (by decide) rfl (fun ls hl => ?_)
      have L119 : ∀ (n : Nat) (q119 : Int32 × Rc) (o : Rc), loopO (fX11_bench_L119) n q119 = some o → ∀ (H : Heap) (locs : List Loc) (ls : Array Slot), lv_has ls 5 [(0, .ref h0), (3, .int q119.1)] → va_P D vwCl (flat [WX11 cy h0 a0 q119.2]) H → va_D A (flat [WX11 cy h0 a0 q119.2]) → va_S A s.heap H locs → ∀ (kk181 : ∀ (H : Heap) (locs : List Loc) (ls : Array Slot), lv_has ls 5 [(0, .ref h0)] → va_P D vwCl (flat [WX11 cy h0 a0 o]) H → va_D A (flat [WX11 cy h0 a0 o]) → va_S A s.heap H locs → W p l e rmX11_bench s m args below meth c H locs 0 0 QQ (F0 m 181 ls [])), W p l e rmX11_bench s m args below meth c H locs 0 0 QQ (F0 m 119 ls []) := by
        intro n
        induction n with
        | zero => intro q119 o h; exact absurd h (by rw [loopO_zero]; intro z; cases z)
        | succ n ih =>
          intro q119 o h H locs ls hl hP hD hS kk181
          obtain ⟨w, h, hgo, hst⟩ := loopO_elim h
          unfold fX11_bench_L119 at h
          refine lv_iload_n hx hb dX11_bench_119 rfl (lv_at hl 1 rfl) ?_
          refine lv_aload_n hx hb dX11_bench_120 rfl (lv_at hl 0 rfl) ?_
          refine va_get (D := D) (ci := 11) (v := .ref (a0 0)) (C := RX11) (T := TX11) (N := 38) hx hb hts hinX11 hown hK hP 0 rfl rfl 0 (by decide) (hts (.fieldLink RX11 7 "KneeBenchModel" "at" "[I") (List.mem_of_getElem? (i := 4) rfl)) (fun _ h9 => h9) rfl dX11_bench_121 ?_
          refine lv_iconst (v := 0) hx hb dX11_bench_124 (by decide) ?_
          refine va_iald hx hb hK hP 1 1 rfl rfl (inb_in (by decide)) dX11_bench_125 ?_
          refine lv_icmp_ge (tgt := 181) hx hb dX11_bench_126 (by decide) (fun c11 => ?_) (fun c11 => ?_)
          · replace h := (if_pos c11).symm.trans h
            have eo := hst _ (Option.some.inj h).symm
            subst eo
            exact kk181 H locs ls (lv_sub hl [0] rfl) hP hD hS
          · replace h := (if_neg c11).symm.trans h
            refine lv_iconst (v := 0) hx hb dX11_bench_129 (by decide) ?_
            refine lv_istore (lv' := [(4, .int (0 : Int32)), (0, .ref h0), (3, .int q119.1)]) hx hb dX11_bench_130 hl (by decide) rfl (fun ls hl => ?_)
            have L132 : ∀ (n : Nat) (q132 : Int32 × Rc) (o : Rc), loopO (fX11_bench_L132 q119) n q132 = some o → ∀ (H : Heap) (locs : List Loc) (ls : Array Slot), lv_has ls 5 [(0, .ref h0), (3, .int q119.1), (4, .int q132.1)] → va_P D vwCl (flat [WX11 cy h0 a0 q132.2]) H → va_D A (flat [WX11 cy h0 a0 q132.2]) → va_S A s.heap H locs → ∀ (kk175 : ∀ (H : Heap) (locs : List Loc) (ls : Array Slot), lv_has ls 5 [(0, .ref h0), (3, .int q119.1)] → va_P D vwCl (flat [WX11 cy h0 a0 o]) H → va_D A (flat [WX11 cy h0 a0 o]) → va_S A s.heap H locs → W p l e rmX11_bench s m args below meth c H locs 0 0 QQ (F0 m 175 ls [])), W p l e rmX11_bench s m args below meth c H locs 0 0 QQ (F0 m 132 ls []) := by
              intro n
              induction n with
              | zero => intro q132 o h; exact absurd h (by rw [loopO_zero]; intro z; cases z)
              | succ n ih =>
                intro q132 o h H locs ls hl hP hD hS kk175
                obtain ⟨w, h, hgo, hst⟩ := loopO_elim h
                unfold fX11_bench_L132 at h
                refine lv_iload hx hb dX11_bench_132 (lv_at hl 2 rfl) ?_
                refine lv_aload_n hx hb dX11_bench_134 rfl (lv_at hl 0 rfl) ?_
                refine va_get (D := D) (ci := 11) (v := .ref (a0 0)) (C := RX11) (T := TX11) (N := 38) hx hb hts hinX11 hown hK hP 0 rfl rfl 0 (by decide) (hts (.fieldLink RX11 7 "KneeBenchModel" "at" "[I") (List.mem_of_getElem? (i := 4) rfl)) (fun _ h9 => h9) rfl dX11_bench_135 ?_
                refine lv_iconst (v := 1) hx hb dX11_bench_138 (by decide) ?_
                refine va_iald hx hb hK hP 1 1 rfl rfl (inb_in (by decide)) dX11_bench_139 ?_
                refine lv_icmp_ge (tgt := 175) hx hb dX11_bench_140 (by decide) (fun c12 => ?_) (fun c12 => ?_)
                · replace h := (if_pos c12).symm.trans h
                  have eo := hst _ (Option.some.inj h).symm
                  subst eo
                  exact kk175 H locs ls (lv_sub hl [0, 1] rfl) hP hD hS
                · replace h := (if_neg c12).symm.trans h
                  refine lv_aload_n hx hb dX11_bench_143 rfl (lv_at hl 0 rfl) ?_
                  refine va_get (D := D) (ci := 11) (v := .ref (a0 0)) (C := RX11) (T := TX11) (N := 38) hx hb hts hinX11 hown hK hP 0 rfl rfl 0 (by decide) (hts (.fieldLink RX11 7 "KneeBenchModel" "at" "[I") (List.mem_of_getElem? (i := 4) rfl)) (fun _ h9 => h9) rfl dX11_bench_144 ?_
                  refine lv_iload_n hx hb dX11_bench_147 rfl (lv_at hl 1 rfl) ?_
                  refine lv_iload hx hb dX11_bench_148 (lv_at hl 2 rfl) ?_
                  refine ca_i (w' := [WX11 cy h0 a0 q132.2]) (rn_S (As := [.int q119.1, .int q132.1]) (rest := [.ref (a0 0)]) ⟨hx, hb, hml, hown, hts⟩ (kX11_twingeRow l D cy q119.1 q132.1 _ rfl H.size) (va_cwS 2 hts gX11_bench_X11_twingeRow rfl rfl rfl (by decide +kernel) ⟨Nat.le_of_ble_eq_true rfl, Nat.le_of_ble_eq_true rfl⟩) hK hN hP hD [] rfl rfl rfl hl.1 rfl (Nat.le_of_ble_eq_true rfl) dX11_bench_150 ⟨Nat.le_refl 0, Nat.le_refl 0⟩) hP hD hS hA [] ⟨rfl, rfl, rfl, rfl⟩ (fun H locs hP hD hS => ?_)
                  refine lv_aload_n hx hb dX11_bench_153 rfl (lv_at hl 0 rfl) ?_
                  refine lv_iload_n hx hb dX11_bench_154 rfl (lv_at hl 1 rfl) ?_
                  refine lv_iload hx hb dX11_bench_155 (lv_at hl 2 rfl) ?_
                  obtain ⟨r13, hr13, h⟩ := bd_elim h
                  refine ca_z (w' := [WX11 cy h0 a0 q132.2]) (rn_V (As := [.int q119.1, .int q132.1]) (rest := [.int (fX11_twingeRow q119.1 q132.1), .ref (a0 0)]) ⟨hx, hb, hml, hown, hts⟩ (kX11_shouldFeel l D cy h0 a0 q132.2 q119.1 q132.1 r13 hr13 H.size) (cwV 2 hts gX11_bench_X11_shouldFeel rfl rfl rfl (by decide +kernel) ⟨Nat.le_of_ble_eq_true rfl, Nat.le_of_ble_eq_true rfl⟩) hK hN hP hD [0] rfl rfl (ci := 11) (q0 := 0) rfl rfl rfl rfl hl.1 rfl (Nat.le_of_ble_eq_true rfl) dX11_bench_157 ⟨Nat.le_refl 0, Nat.le_refl 0⟩) hP hD hS hA [0] ⟨rfl, rfl, rfl, rfl⟩ (fun b14 H locs hP hD hS => ?_)
                  refine lv_if_eq (tgt := 167) hx hb dX11_bench_160 (by decide) (fun c15 => ?_) (fun c15 => ?_)
                  · replace h := (if_pos c15).symm.trans h
                    refine lv_iconst (v := 0) hx hb dX11_bench_167 (by decide) ?_
                    obtain ⟨g16, h⟩ := gd_elim h
                    obtain ⟨s0_17, es, h⟩ := lt_elim h
                    refine va_iast hx hb hK hP hD hS 1 1 rfl rfl (inb_in g16) dX11_bench_168 (fun H locs hP hD hS => ?_)
                    have hP : va_P D vwCl (flat [WX11 cy h0 a0 s0_17]) H := by rw [es]; exact hP
                    have hD : va_D A (flat [WX11 cy h0 a0 s0_17]) := by rw [es]; exact hD
                    clear es
                    refine lv_iinc (v := (q132.1 + (1 : Int32))) (lv' := [(4, .int (q132.1 + (1 : Int32))), (0, .ref h0), (3, .int q119.1)]) hx hb dX11_bench_169 hl (k := 2) rfl rfl (by decide) rfl (fun ls hl => ?_)
                    refine lv_goto (tgt := 132) hx hb dX11_bench_172 (by decide) ?_
                    exact ih _ o (hgo _ (Option.some.inj h).symm) H locs ls (lv_sub hl [1, 2, 0] rfl) hP hD hS kk175
                  · replace h := (if_neg c15).symm.trans h
                    refine lv_iconst (v := 1) hx hb dX11_bench_163 (by decide) ?_
                    refine lv_goto (tgt := 168) hx hb dX11_bench_164 (by decide) ?_
                    obtain ⟨g18, h⟩ := gd_elim h
                    obtain ⟨s0_19, es, h⟩ := lt_elim h
                    refine va_iast hx hb hK hP hD hS 1 1 rfl rfl (inb_in g18) dX11_bench_168 (fun H locs hP hD hS => ?_)
                    have hP : va_P D vwCl (flat [WX11 cy h0 a0 s0_19]) H := by rw [es]; exact hP
                    have hD : va_D A (flat [WX11 cy h0 a0 s0_19]) := by rw [es]; exact hD
                    clear es
                    refine lv_iinc (v := (q132.1 + (1 : Int32))) (lv' := [(4, .int (q132.1 + (1 : Int32))), (0, .ref h0), (3, .int q119.1)]) hx hb dX11_bench_169 hl (k := 2) rfl rfl (by decide) rfl (fun ls hl => ?_)
                    refine lv_goto (tgt := 132) hx hb dX11_bench_172 (by decide) ?_
                    exact ih _ o (hgo _ (Option.some.inj h).symm) H locs ls (lv_sub hl [1, 2, 0] rfl) hP hD hS kk175
            obtain ⟨o132, ho132, h⟩ := bd_elim h
            obtain ⟨n132, hn132⟩ := loopF_some ho132
            refine L132 n132 _ o132 hn132 H locs ls (lv_sub hl [1, 2, 0] rfl) hP hD hS (fun H locs ls hl hP hD hS => ?_)
            refine lv_iinc (v := (q119.1 + (1 : Int32))) (lv' := [(3, .int (q119.1 + (1 : Int32))), (0, .ref h0)]) hx hb dX11_bench_175 hl (k := 1) rfl rfl (by decide) rfl (fun ls hl => ?_)
            refine lv_goto (tgt := 119) hx hb dX11_bench_178 (by decide) ?_
            exact ih _ o (hgo _ (Option.some.inj h).symm) H locs ls (lv_sub hl [1, 0] rfl) hP hD hS kk181
      obtain ⟨o119, ho119, h⟩ := bd_elim h
      obtain ⟨n119, hn119⟩ := loopF_some ho119
      refine L119 n119 _ o119 hn119 H locs ls (lv_sub hl [1, 0] rfl) hP hD hS (fun H locs ls hl hP hD hS => ?_)
      exact J181 o119 H locs ls (lv_sub hl [0] rfl) hP hD hS h
  refine lv_aload_n hx hb dX11_bench_0 rfl (lv_at hl 0 rfl) ?_
  refine lv_iload_n hx hb dX11_bench_1 rfl (lv_at hl 1 rfl) ?_
  refine lv_sipush (v := 900) hx hb dX11_bench_2 (by decide) ?_
  obtain ⟨r20, hr20, h⟩ := bd_elim h
  refine ca_z (w' := [WX11 cy h0 a0 r20.2]) (rn_V (As := [.int p1, .int (900 : Int32)]) (rest := []) ⟨hx, hb, hml, hown, hts⟩ (kX11_begins l D cy h0 a0 s0 p1 (900 : Int32) r20 hr20 H.size) (cwV 2 hts gX11_bench_X11_begins rfl rfl rfl (by decide +kernel) ⟨Nat.le_of_ble_eq_true rfl, Nat.le_of_ble_eq_true rfl⟩) hK hN hP hD [0] rfl rfl (ci := 11) (q0 := 0) rfl rfl rfl rfl hl.1 rfl (Nat.le_of_ble_eq_true rfl) dX11_bench_5 ⟨Nat.le_refl 0, Nat.le_refl 0⟩) hP hD hS hA [0] ⟨rfl, rfl, rfl, rfl⟩ (fun b21 H locs hP hD hS => ?_)
  refine lv_if_ne (tgt := 17) hx hb dX11_bench_8 (by decide) (fun c22 => ?_) (fun c22 => ?_)
  · replace h := (if_neg c22).symm.trans h
    refine lv_aload_n hx hb dX11_bench_17 rfl (lv_at hl 0 rfl) ?_
    refine lv_sipush (v := 4160) hx hb dX11_bench_18 (by decide) ?_
    obtain ⟨r23, hr23, h⟩ := bd_elim h
    refine ca_v (w' := [WX11 cy h0 a0 r23]) (rn_V (As := [.int (4160 : Int32)]) (rest := []) ⟨hx, hb, hml, hown, hts⟩ (kX11_plain l D cy h0 a0 r20.2 (4160 : Int32) r23 hr23 H.size) (cwV 1 hts gX11_bench_X11_plain rfl rfl rfl (by decide +kernel) ⟨Nat.le_of_ble_eq_true rfl, Nat.le_of_ble_eq_true rfl⟩) hK hN hP hD [0] rfl rfl (ci := 11) (q0 := 0) rfl rfl rfl rfl hl.1 rfl (Nat.le_of_ble_eq_true rfl) dX11_bench_21 ⟨Nat.le_refl 0, Nat.le_refl 0⟩) hP hD hS hA [0] ⟨rfl, rfl, rfl, rfl⟩ (fun H locs hP hD hS => ?_)
    refine lv_aload_n hx hb dX11_bench_24 rfl (lv_at hl 0 rfl) ?_
    refine lv_iconst (v := 0) hx hb dX11_bench_25 (by decide) ?_
    obtain ⟨s0_24, es, h⟩ := lt_elim h
    refine va_put (D := D) (ci := 11) (v := .int (0 : Int32)) (ty := .boolean) (C := RX11) (T := TX11) (N := 38) hx hb hts hinX11 tyX11 tyX11_ok nmX11 hown hK hP hD hS 0 rfl rfl 20 (by decide) (hts (.fieldLink RX11 198 "KneeBenchModel" "voteTold" "Z") (List.mem_of_getElem? (i := 1) rfl)) (fun _ h9 => h9) rfl (by decide +kernel) (isb_nar (show isb (0 : Int32) = true by decide)) (isb_fit (show isb (0 : Int32) = true by decide)) (Nat.le_of_ble_eq_true rfl) dX11_bench_26 (fun H locs hP hD hS => ?_)
    have hP : va_P D vwCl (flat [WX11 cy h0 a0 s0_24]) H := by rw [es]; exact hP
    have hD : va_D A (flat [WX11 cy h0 a0 s0_24]) := by rw [es]; exact hD
    clear es
    refine lv_iconst (v := 1) hx hb dX11_bench_29 (by decide) ?_
    refine lv_istore_n (lv' := [(2, .int (1 : Int32)), (0, .ref h0), (1, .int p1)]) hx hb dX11_bench_30 rfl hl (by decide) rfl (fun ls hl => ?_)
    have L31 : ∀ (n : Nat) (q31 : Int32 × Rc) (o : Rc), loopO (fX11_bench_L31) n q31 = some o → ∀ (H : Heap) (locs : List Loc) (ls : Array Slot), lv_has ls 5 [(0, .ref h0), (2, .int q31.1)] → va_P D vwCl (flat [WX11 cy h0 a0 q31.2]) H → va_D A (flat [WX11 cy h0 a0 q31.2]) → va_S A s.heap H locs → ∀ (kk50 : ∀ (H : Heap) (locs : List Loc) (ls : Array Slot), lv_has ls 5 [(0, .ref h0)] → va_P D vwCl (flat [WX11 cy h0 a0 o]) H → va_D A (flat [WX11 cy h0 a0 o]) → va_S A s.heap H locs → W p l e rmX11_bench s m args below meth c H locs 0 0 QQ (F0 m 50 ls [])), W p l e rmX11_bench s m args below meth c H locs 0 0 QQ (F0 m 31 ls []) := by
      intro n
      induction n with
      | zero => intro q31 o h; exact absurd h (by rw [loopO_zero]; intro z; cases z)
      | succ n ih =>
        intro q31 o h H locs ls hl hP hD hS kk50
        obtain ⟨w, h, hgo, hst⟩ := loopO_elim h
        unfold fX11_bench_L31 at h
        refine lv_iload_n hx hb dX11_bench_31 rfl (lv_at hl 1 rfl) ?_
        refine lv_if_eq (tgt := 50) hx hb dX11_bench_32 (by decide) (fun c25 => ?_) (fun c25 => ?_)
        · replace h := (if_pos c25).symm.trans h
          have eo := hst _ (Option.some.inj h).symm
          subst eo
          exact kk50 H locs ls (lv_sub hl [0] rfl) hP hD hS
        · replace h := (if_neg c25).symm.trans h
          refine lv_aload_n hx hb dX11_bench_35 rfl (lv_at hl 0 rfl) ?_
          refine va_get (D := D) (ci := 11) (v := .int (gi q31.2 12)) (C := RX11) (T := TX11) (N := 38) hx hb hts hinX11 hown hK hP 0 rfl rfl 12 (by decide) (hts (.fieldLink RX11 120 "KneeBenchModel" "token" "I") (List.mem_of_getElem? (i := 2) rfl)) (fun _ h9 => h9) rfl dX11_bench_36 ?_
          refine lv_if_eq (tgt := 50) hx hb dX11_bench_39 (by decide) (fun c26 => ?_) (fun c26 => ?_)
          · replace h := (if_pos c26).symm.trans h
            have eo := hst _ (Option.some.inj h).symm
            subst eo
            exact kk50 H locs ls (lv_sub hl [0] rfl) hP hD hS
          · replace h := (if_neg c26).symm.trans h
            refine lv_aload_n hx hb dX11_bench_42 rfl (lv_at hl 0 rfl) ?_
            obtain ⟨r27, hr27, h⟩ := bd_elim h
            refine ca_z (w' := [WX11 cy h0 a0 r27.2]) (rn_V2 (As := []) (rest := []) ⟨hx, hb, hml, hown, hts⟩ (kX11_benchPart S l D cy h0 a0 q31.2 r27 hr27 H.size) (cwV 0 hts gX11_bench_X11_benchPart rfl rfl rfl (by decide +kernel) ⟨Nat.le_of_ble_eq_true rfl, Nat.le_of_ble_eq_true rfl⟩) hK hN hX hP hD hS hA [0] rfl rfl (ci := 11) (q0 := 0) rfl rfl rfl rfl hl.1 rfl (Nat.le_of_ble_eq_true rfl) dX11_bench_43 ⟨Nat.le_refl 0, Nat.le_refl 0⟩) hP hD hS hA [0] ⟨rfl, rfl, rfl, rfl⟩ (fun b28 H locs hP hD hS => ?_)
            refine lv_istore_n (lv' := [(2, .int r27.1), (0, .ref h0)]) hx hb dX11_bench_46 rfl hl (by decide) rfl (fun ls hl => ?_)
            refine lv_goto (tgt := 31) hx hb dX11_bench_47 (by decide) ?_
            exact ih _ o (hgo _ (Option.some.inj h).symm) H locs ls (lv_sub hl [1, 0] rfl) hP hD hS kk50
    obtain ⟨o31, ho31, h⟩ := bd_elim h
    obtain ⟨n31, hn31⟩ := loopF_some ho31
    refine L31 n31 _ o31 hn31 H locs ls (lv_sub hl [1, 0] rfl) hP hD hS (fun H locs ls hl hP hD hS => ?_)
    exact J50 o31 H locs ls (lv_sub hl [0] rfl) hP hD hS h
  · replace h := (if_pos c22).symm.trans h
    refine lv_aload_n hx hb dX11_bench_11 rfl (lv_at hl 0 rfl) ?_
    refine lv_iconst (v := 1) hx hb dX11_bench_12 (by decide) ?_
    obtain ⟨r29, hr29, h⟩ := lt_elim h
    refine ca_i (w' := [WX11 cy h0 a0 r29.2]) (rn_V (As := [.int (1 : Int32)]) (rest := []) ⟨hx, hb, hml, hown, hts⟩ (kX11_refuse l D cy h0 a0 r20.2 (1 : Int32) r29 hr29.symm H.size) (cwV 1 hts gX11_bench_X11_refuse rfl rfl rfl (by decide +kernel) ⟨Nat.le_of_ble_eq_true rfl, Nat.le_of_ble_eq_true rfl⟩) hK hN hP hD [0] rfl rfl (ci := 11) (q0 := 0) rfl rfl rfl rfl hl.1 rfl (Nat.le_of_ble_eq_true rfl) dX11_bench_13 ⟨Nat.le_refl 0, Nat.le_refl 0⟩) hP hD hS hA [0] ⟨rfl, rfl, rfl, rfl⟩ (fun H locs hP hD hS => ?_)
    exact hret 16 H locs ls (r29.1, r29.2) (Option.some.inj h) hP hD hS dX11_bench_16
set_option maxRecDepth 20000 in
theorem ggX11_farmerTo_X11_oldOne : GoodIn wsX11_farmerTo wsX11_oldOne := goodIn_r _ [6, 1, 7, 8, 9, 5, 10, 11, 12, 13, 14, 15, 16, 17, 18, 19, 20, 21, 22, 23, 24, 25, 26, 27, 28, 29, 30, 31, 32, 33, 34, 35, 36, 37, 38, 39, 40, 41, 42, 43, 44, 45, 46, 47, 48, 49, 50, 51, 52, 53, 54, 55, 56, 57, 58, 59, 60, 61, 62, 63, 64, 65, 66, 67, 68, 69, 70, 71, 72, 73, 74, 75, 76, 77, 78, 79, 80, 81, 82, 83, 84, 85, 86, 87, 88, 89, 90, 91, 92, 93, 94, 95, 96, 97, 98, 99, 100, 101, 102, 103, 104, 105, 106, 107, 108, 109, 110, 111, 112, 113, 114, 115, 116, 117, 118, 119, 120, 121, 122, 123, 124, 125, 126, 127, 128, 129, 130, 131, 132, 133, 134, 135, 136, 137, 138, 139, 140, 141] (by decide +kernel) (by decide +kernel)
set_option maxRecDepth 20000 in
theorem gX11_farmerTo_X11_oldOne : GoodIn wsX11_farmerTo (wsV RX11 192 RX11 yX11_oldOne wsX11_oldOne) := goodIn_app (goodIn_of _ (by decide +kernel)) ggX11_farmerTo_X11_oldOne
theorem dX11_farmerTo_0 : decode cX11_farmerTo 0 = .ok (.aload_n 0, 1) := by decide +kernel
theorem dX11_farmerTo_1 : decode cX11_farmerTo 1 = .ok (.iconst 0, 1) := by decide +kernel
theorem dX11_farmerTo_2 : decode cX11_farmerTo 2 = .ok (.aload_n 0, 1) := by decide +kernel
theorem dX11_farmerTo_3 : decode cX11_farmerTo 3 = .ok (.getfield 7, 3) := by decide +kernel
theorem dX11_farmerTo_6 : decode cX11_farmerTo 6 = .ok (.iconst 0, 1) := by decide +kernel
theorem dX11_farmerTo_7 : decode cX11_farmerTo 7 = .ok (.iaload, 1) := by decide +kernel
theorem dX11_farmerTo_8 : decode cX11_farmerTo 8 = .ok (.iload_n 1, 1) := by decide +kernel
theorem dX11_farmerTo_9 : decode cX11_farmerTo 9 = .ok (.invokevirtual 192, 3) := by decide +kernel
theorem dX11_farmerTo_12 : decode cX11_farmerTo 12 = .ok (.ireturn, 1) := by decide +kernel
abbrev rmX11_farmerTo : Room := { frames := 7, cells := 0, slots := 0, locals := 155 }
set_option maxHeartbeats 4000000 in
set_option maxRecDepth 100000 in
theorem kX11_farmerTo (S : Nat → Nat) (l : Launch) (D : va_G) (cy : Nat → ClassId) (h0 : Nat) (a0 : Nat → Nat) (s0 : Rc) (p1 : Int32) (res : Int32 × Rc) (h : fX11_farmerTo p1 s0 = some res) : CZ2 S l D cy yX11_farmerTo wsX11_farmerTo rmX11_farmerTo [.ref h0, .int p1] (flat [WX11 cy h0 a0 s0]) (flat [WX11 cy h0 a0 res.2]) res.1 := by
  refine CZ2.of (cc := cX11_farmerTo) (maxL := 2) (by decide) rfl (Nat.le_of_ble_eq_true rfl) ?_
  intro p e s m args below meth c A QQ ls E hX hr
  obtain ⟨hx, hb, hml, hown, hts, hK, hN, hP, hD, hA, hl⟩ := E
  have hret : ∀ (pc : Nat) (H : Heap) (locs : List Loc) (ls : Array Slot) (u : Int32 × Rc), u = res → va_P D vwCl (flat [WX11 cy h0 a0 u.2]) H → va_D A (flat [WX11 cy h0 a0 u.2]) → va_S A s.heap H locs → isb u.1 = true → decode cX11_farmerTo pc = .ok (.ireturn, 1) → W p l e rmX11_farmerTo s m args below meth c H locs 0 0 QQ (F0 m pc ls [.int u.1]) := by
    intro pc H locs ls u hu hP hD hS hz hd; subst hu; exact hr pc H locs ls _ rfl hP hD hS hz hd
  clear hr
  have hl : lv_has ls 2 [(0, .ref h0), (1, .int p1)] := hl
  have hinX11 : ∀ w ∈ wsX110, w ∈ wsX11_farmerTo := fun _ h => List.mem_cons_of_mem _ (List.mem_append_right _ h)
  unfold fX11_farmerTo at h
  suffices key : ∀ (H : Heap) (locs : List Loc), va_P D vwCl (flat [WX11 cy h0 a0 s0]) H → va_S A s.heap H locs → W p l e rmX11_farmerTo s m args below meth c H locs 0 0 QQ (F0 m 0 ls []) from key _ _ hP va_S.rf
  clear hP
  intro H locs hP hS
  refine lv_aload_n hx hb dX11_farmerTo_0 rfl (lv_at hl 0 rfl) ?_
  refine lv_iconst (v := 0) hx hb dX11_farmerTo_1 (by decide) ?_
  refine lv_aload_n hx hb dX11_farmerTo_2 rfl (lv_at hl 0 rfl) ?_
  refine va_get (D := D) (ci := 11) (v := .ref (a0 0)) (C := RX11) (T := TX11) (N := 38) hx hb hts hinX11 hown hK hP 0 rfl rfl 0 (by decide) (hts (.fieldLink RX11 7 "KneeBenchModel" "at" "[I") (List.mem_of_getElem? (i := 1) rfl)) (fun _ h9 => h9) rfl dX11_farmerTo_3 ?_
  refine lv_iconst (v := 0) hx hb dX11_farmerTo_6 (by decide) ?_
  refine va_iald hx hb hK hP 1 1 rfl rfl (inb_in (by decide)) dX11_farmerTo_7 ?_
  refine lv_iload_n hx hb dX11_farmerTo_8 rfl (lv_at hl 1 rfl) ?_
  obtain ⟨r1, hr1, h⟩ := bd_elim h
  refine ca_z (w' := [WX11 cy h0 a0 r1.2]) (rn_V2 (As := [.int (0 : Int32), .int (ga s0 0 (0 : Int32).toNatClampNeg), .int p1]) (rest := []) ⟨hx, hb, hml, hown, hts⟩ (kX11_oldOne S l D cy h0 a0 s0 (0 : Int32) (ga s0 0 (0 : Int32).toNatClampNeg) p1 r1 hr1 H.size) (cwV 3 hts gX11_farmerTo_X11_oldOne rfl rfl rfl (by decide +kernel) ⟨Nat.le_of_ble_eq_true rfl, Nat.le_of_ble_eq_true rfl⟩) hK hN hX hP hD hS hA [0] rfl rfl (ci := 11) (q0 := 0) rfl rfl rfl rfl hl.1 rfl (Nat.le_of_ble_eq_true rfl) dX11_farmerTo_9 ⟨Nat.le_refl 0, Nat.le_refl 0⟩) hP hD hS hA [0] ⟨rfl, rfl, rfl, rfl⟩ (fun b2 H locs hP hD hS => ?_)
  exact hret 12 H locs ls (r1.1, r1.2) (Option.some.inj h) hP hD hS b2 dX11_farmerTo_12
set_option maxRecDepth 20000 in
theorem ggX11_test_X11_inWords : GoodIn wsX11_test wsX11_inWords := goodIn_r _ [7, 8, 9, 10, 11, 12, 13, 14, 15, 16, 17, 18, 19, 20, 21, 22, 23, 24, 25, 26, 27, 28, 29, 30, 31, 32, 33, 34, 35, 36, 37, 38, 39, 40, 41, 42, 43, 44, 45, 46, 47, 48, 49, 50, 51, 52, 53, 54, 55, 56, 57, 58, 59, 60, 61, 62, 6, 63, 64, 65, 116, 117, 118, 119, 120, 121, 122, 123, 124, 125, 126, 127, 128, 129, 130, 131, 132, 133, 134, 135, 136, 137, 138, 139, 140, 141, 142, 143, 144, 145, 146, 147, 148, 149, 150, 151, 152, 153] (by decide +kernel) (by decide +kernel)
set_option maxRecDepth 20000 in
theorem gX11_test_X11_inWords : GoodIn wsX11_test (wsV RX11 160 RX11 yX11_inWords wsX11_inWords) := goodIn_app (goodIn_of _ (by decide +kernel)) ggX11_test_X11_inWords
set_option maxRecDepth 20000 in
theorem ggX11_test_X11_fails : GoodIn wsX11_test wsX11_fails := goodIn_r _ [69, 70, 8, 10, 71, 116, 117, 118, 119, 120, 121, 122, 123, 124, 125, 126, 127, 128, 129, 130, 131, 132, 133, 134, 135, 136, 137, 138, 139, 140, 141, 142, 143, 144, 145, 146, 147, 148, 149, 150, 151, 152, 153] (by decide +kernel) (by decide +kernel)
set_option maxRecDepth 20000 in
theorem gX11_test_X11_fails : GoodIn wsX11_test (wsV RX11 157 RX11 yX11_fails wsX11_fails) := goodIn_app (goodIn_of _ (by decide +kernel)) ggX11_test_X11_fails
set_option maxRecDepth 20000 in
theorem ggX11_test_X11_ahead : GoodIn wsX11_test wsX11_ahead := goodIn_r _ [75, 9, 10, 2, 8, 76, 77, 78, 79, 80, 60, 61, 62, 6, 63, 64, 65, 81, 82, 83, 84, 85, 86, 116, 117, 118, 119, 120, 121, 122, 123, 124, 125, 126, 127, 128, 129, 130, 131, 132, 133, 134, 135, 136, 137, 138, 139, 140, 141, 142, 143, 144, 145, 146, 147, 148, 149, 150, 151, 152, 153] (by decide +kernel) (by decide +kernel)
set_option maxRecDepth 20000 in
theorem gX11_test_X11_ahead : GoodIn wsX11_test (wsV RX11 151 RX11 yX11_ahead wsX11_ahead) := goodIn_app (goodIn_of _ (by decide +kernel)) ggX11_test_X11_ahead
set_option maxRecDepth 20000 in
theorem ggX11_test_X11_number : GoodIn wsX11_test wsX11_number := goodIn_r _ [90, 8, 2, 1, 66, 67, 68, 6, 69, 70, 10, 71, 72, 73, 74, 75, 9, 76, 77, 78, 79, 80, 60, 61, 62, 63, 64, 65, 81, 82, 83, 84, 85, 86, 116, 117, 118, 119, 120, 121, 122, 123, 124, 125, 126, 127, 128, 129, 130, 131, 132, 133, 134, 135, 136, 137, 138, 139, 140, 141, 142, 143, 144, 145, 146, 147, 148, 149, 150, 151, 152, 153] (by decide +kernel) (by decide +kernel)
set_option maxRecDepth 20000 in
theorem gX11_test_X11_number : GoodIn wsX11_test (wsV RX11 180 RX11 yX11_number wsX11_number) := goodIn_app (goodIn_of _ (by decide +kernel)) ggX11_test_X11_number
set_option maxRecDepth 20000 in
theorem ggX11_test_X11_farmerTo : GoodIn wsX11_test wsX11_farmerTo := goodIn_r _ [94, 1, 95, 96, 97, 6, 98, 99, 100, 101, 102, 8, 9, 10, 3, 4, 5, 7, 11, 12, 13, 14, 15, 16, 17, 18, 19, 20, 21, 22, 23, 24, 25, 26, 27, 28, 29, 30, 31, 32, 33, 34, 35, 36, 37, 38, 39, 40, 41, 42, 43, 44, 45, 46, 47, 48, 49, 50, 51, 52, 53, 54, 55, 56, 57, 58, 59, 60, 61, 62, 63, 64, 65, 66, 67, 68, 69, 70, 71, 103, 104, 105, 106, 107, 108, 109, 110, 111, 72, 73, 74, 75, 2, 76, 77, 78, 79, 80, 81, 82, 83, 84, 85, 86, 116, 117, 118, 119, 120, 121, 122, 123, 124, 125, 126, 127, 128, 129, 130, 131, 132, 133, 134, 135, 136, 137, 138, 139, 140, 141, 142, 143, 144, 145, 146, 147, 148, 149, 150, 151, 152, 153] (by decide +kernel) (by decide +kernel)
set_option maxRecDepth 20000 in
theorem gX11_test_X11_farmerTo : GoodIn wsX11_test (wsV RX11 234 RX11 yX11_farmerTo wsX11_farmerTo) := goodIn_app (goodIn_of _ (by decide +kernel)) ggX11_test_X11_farmerTo
set_option maxRecDepth 20000 in
theorem ggX11_test_X11_isSign : GoodIn wsX11_test wsX11_isSign := goodIn_r _ [115, 8, 2, 116, 117, 118, 119, 120, 121, 122, 123, 124, 125, 126, 127, 128, 129, 130, 131, 132, 133, 134, 135, 136, 137, 138, 139, 140, 141, 142, 143, 144, 145, 146, 147, 148, 149, 150, 151, 152, 153] (by decide +kernel) (by decide +kernel)
set_option maxRecDepth 20000 in
theorem gX11_test_X11_isSign : GoodIn wsX11_test (wsV RX11 154 RX11 yX11_isSign wsX11_isSign) := goodIn_app (goodIn_of _ (by decide +kernel)) ggX11_test_X11_isSign
theorem dX11_test_0 : decode cX11_test 0 = .ok (.aload_n 0, 1) := by decide +kernel
theorem dX11_test_1 : decode cX11_test 1 = .ok (.ldc 168, 2) := by decide +kernel
theorem dX11_test_3 : decode cX11_test 3 = .ok (.invokevirtual 160, 3) := by decide +kernel
theorem dX11_test_6 : decode cX11_test 6 = .ok (.istore_n 2, 1) := by decide +kernel
theorem dX11_test_7 : decode cX11_test 7 = .ok (.iload_n 2, 1) := by decide +kernel
theorem dX11_test_8 : decode cX11_test 8 = .ok (.bipush 27, 2) := by decide +kernel
theorem dX11_test_10 : decode cX11_test 10 = .ok (.if_icmp .ge 9, 3) := by decide +kernel
theorem dX11_test_13 : decode cX11_test 13 = .ok (.aload_n 0, 1) := by decide +kernel
theorem dX11_test_14 : decode cX11_test 14 = .ok (.iconst 2, 1) := by decide +kernel
theorem dX11_test_15 : decode cX11_test 15 = .ok (.invokevirtual 157, 3) := by decide +kernel
theorem dX11_test_18 : decode cX11_test 18 = .ok (.ireturn, 1) := by decide +kernel
theorem dX11_test_19 : decode cX11_test 19 = .ok (.aload_n 0, 1) := by decide +kernel
theorem dX11_test_20 : decode cX11_test 20 = .ok (.getfield 7, 3) := by decide +kernel
theorem dX11_test_23 : decode cX11_test 23 = .ok (.iload_n 1, 1) := by decide +kernel
theorem dX11_test_24 : decode cX11_test 24 = .ok (.sipush 2300, 3) := by decide +kernel
theorem dX11_test_27 : decode cX11_test 27 = .ok (.iload_n 2, 1) := by decide +kernel
theorem dX11_test_28 : decode cX11_test 28 = .ok (.iadd, 1) := by decide +kernel
theorem dX11_test_29 : decode cX11_test 29 = .ok (.iastore, 1) := by decide +kernel
theorem dX11_test_30 : decode cX11_test 30 = .ok (.aload_n 0, 1) := by decide +kernel
theorem dX11_test_31 : decode cX11_test 31 = .ok (.invokevirtual 151, 3) := by decide +kernel
theorem dX11_test_34 : decode cX11_test 34 = .ok (.iload_n 2, 1) := by decide +kernel
theorem dX11_test_35 : decode cX11_test 35 = .ok (.bipush 27, 2) := by decide +kernel
theorem dX11_test_37 : decode cX11_test 37 = .ok (.if_icmp .ne 14, 3) := by decide +kernel
theorem dX11_test_40 : decode cX11_test 40 = .ok (.aload_n 0, 1) := by decide +kernel
theorem dX11_test_41 : decode cX11_test 41 = .ok (.iload_n 1, 1) := by decide +kernel
theorem dX11_test_42 : decode cX11_test 42 = .ok (.iconst 1, 1) := by decide +kernel
theorem dX11_test_43 : decode cX11_test 43 = .ok (.iadd, 1) := by decide +kernel
theorem dX11_test_44 : decode cX11_test 44 = .ok (.iconst 0, 1) := by decide +kernel
theorem dX11_test_45 : decode cX11_test 45 = .ok (.bipush 62, 2) := by decide +kernel
theorem dX11_test_47 : decode cX11_test 47 = .ok (.invokevirtual 180, 3) := by decide +kernel
theorem dX11_test_50 : decode cX11_test 50 = .ok (.ireturn, 1) := by decide +kernel
theorem dX11_test_51 : decode cX11_test 51 = .ok (.iload_n 2, 1) := by decide +kernel
theorem dX11_test_52 : decode cX11_test 52 = .ok (.bipush 28, 2) := by decide +kernel
theorem dX11_test_54 : decode cX11_test 54 = .ok (.if_icmp .ne 15, 3) := by decide +kernel
theorem dX11_test_57 : decode cX11_test 57 = .ok (.aload_n 0, 1) := by decide +kernel
theorem dX11_test_58 : decode cX11_test 58 = .ok (.iload_n 1, 1) := by decide +kernel
theorem dX11_test_59 : decode cX11_test 59 = .ok (.iconst 1, 1) := by decide +kernel
theorem dX11_test_60 : decode cX11_test 60 = .ok (.iadd, 1) := by decide +kernel
theorem dX11_test_61 : decode cX11_test 61 = .ok (.invokevirtual 234, 3) := by decide +kernel
theorem dX11_test_64 : decode cX11_test 64 = .ok (.ifCond .ne 5, 3) := by decide +kernel
theorem dX11_test_67 : decode cX11_test 67 = .ok (.iconst 0, 1) := by decide +kernel
theorem dX11_test_68 : decode cX11_test 68 = .ok (.ireturn, 1) := by decide +kernel
theorem dX11_test_69 : decode cX11_test 69 = .ok (.aload_n 0, 1) := by decide +kernel
theorem dX11_test_70 : decode cX11_test 70 = .ok (.bipush 60, 2) := by decide +kernel
theorem dX11_test_72 : decode cX11_test 72 = .ok (.invokevirtual 154, 3) := by decide +kernel
theorem dX11_test_75 : decode cX11_test 75 = .ok (.ifCond .ne 27, 3) := by decide +kernel
theorem dX11_test_78 : decode cX11_test 78 = .ok (.aload_n 0, 1) := by decide +kernel
theorem dX11_test_79 : decode cX11_test 79 = .ok (.bipush 62, 2) := by decide +kernel
theorem dX11_test_81 : decode cX11_test 81 = .ok (.invokevirtual 154, 3) := by decide +kernel
theorem dX11_test_84 : decode cX11_test 84 = .ok (.ifCond .ne 18, 3) := by decide +kernel
theorem dX11_test_87 : decode cX11_test 87 = .ok (.aload_n 0, 1) := by decide +kernel
theorem dX11_test_88 : decode cX11_test 88 = .ok (.bipush 61, 2) := by decide +kernel
theorem dX11_test_90 : decode cX11_test 90 = .ok (.invokevirtual 154, 3) := by decide +kernel
theorem dX11_test_93 : decode cX11_test 93 = .ok (.ifCond .ne 9, 3) := by decide +kernel
theorem dX11_test_96 : decode cX11_test 96 = .ok (.aload_n 0, 1) := by decide +kernel
theorem dX11_test_97 : decode cX11_test 97 = .ok (.iconst 2, 1) := by decide +kernel
theorem dX11_test_98 : decode cX11_test 98 = .ok (.invokevirtual 157, 3) := by decide +kernel
theorem dX11_test_101 : decode cX11_test 101 = .ok (.ireturn, 1) := by decide +kernel
theorem dX11_test_102 : decode cX11_test 102 = .ok (.aload_n 0, 1) := by decide +kernel
theorem dX11_test_103 : decode cX11_test 103 = .ok (.getfield 7, 3) := by decide +kernel
theorem dX11_test_106 : decode cX11_test 106 = .ok (.iload_n 1, 1) := by decide +kernel
theorem dX11_test_107 : decode cX11_test 107 = .ok (.iconst 5, 1) := by decide +kernel
theorem dX11_test_108 : decode cX11_test 108 = .ok (.iadd, 1) := by decide +kernel
theorem dX11_test_109 : decode cX11_test 109 = .ok (.aload_n 0, 1) := by decide +kernel
theorem dX11_test_110 : decode cX11_test 110 = .ok (.getfield 117, 3) := by decide +kernel
theorem dX11_test_113 : decode cX11_test 113 = .ok (.iastore, 1) := by decide +kernel
theorem dX11_test_114 : decode cX11_test 114 = .ok (.aload_n 0, 1) := by decide +kernel
theorem dX11_test_115 : decode cX11_test 115 = .ok (.invokevirtual 151, 3) := by decide +kernel
theorem dX11_test_118 : decode cX11_test 118 = .ok (.aload_n 0, 1) := by decide +kernel
theorem dX11_test_119 : decode cX11_test 119 = .ok (.iload_n 1, 1) := by decide +kernel
theorem dX11_test_120 : decode cX11_test 120 = .ok (.iconst 2, 1) := by decide +kernel
theorem dX11_test_121 : decode cX11_test 121 = .ok (.iadd, 1) := by decide +kernel
theorem dX11_test_122 : decode cX11_test 122 = .ok (.iconst 0, 1) := by decide +kernel
theorem dX11_test_123 : decode cX11_test 123 = .ok (.iload_n 2, 1) := by decide +kernel
theorem dX11_test_124 : decode cX11_test 124 = .ok (.bipush 28, 2) := by decide +kernel
theorem dX11_test_126 : decode cX11_test 126 = .ok (.if_icmp .ne 8, 3) := by decide +kernel
theorem dX11_test_129 : decode cX11_test 129 = .ok (.bipush 64, 2) := by decide +kernel
theorem dX11_test_131 : decode cX11_test 131 = .ok (.goto 5, 3) := by decide +kernel
theorem dX11_test_134 : decode cX11_test 134 = .ok (.bipush 60, 2) := by decide +kernel
theorem dX11_test_136 : decode cX11_test 136 = .ok (.invokevirtual 180, 3) := by decide +kernel
theorem dX11_test_139 : decode cX11_test 139 = .ok (.ireturn, 1) := by decide +kernel
abbrev rmX11_test : Room := { frames := 8, cells := 0, slots := 0, locals := 176 }
set_option maxHeartbeats 4000000 in
set_option maxRecDepth 100000 in
theorem kX11_test (S : Nat → Nat) (l : Launch) (D : va_G) (cy : Nat → ClassId) (h0 : Nat) (a0 : Nat → Nat) (s0 : Rc) (p1 : Int32) (res : Int32 × Rc) (h : fX11_test p1 s0 = some res) : CZ2 S l D cy yX11_test wsX11_test rmX11_test [.ref h0, .int p1] (flat [WX11 cy h0 a0 s0]) (flat [WX11 cy h0 a0 res.2]) res.1 := by
  refine CZ2.of (cc := cX11_test) (maxL := 3) (by decide) rfl (Nat.le_of_ble_eq_true rfl) ?_
  intro p e s m args below meth c A QQ ls E hX hr
  obtain ⟨hx, hb, hml, hown, hts, hK, hN, hP, hD, hA, hl⟩ := E
  have hret : ∀ (pc : Nat) (H : Heap) (locs : List Loc) (ls : Array Slot) (u : Int32 × Rc), u = res → va_P D vwCl (flat [WX11 cy h0 a0 u.2]) H → va_D A (flat [WX11 cy h0 a0 u.2]) → va_S A s.heap H locs → isb u.1 = true → decode cX11_test pc = .ok (.ireturn, 1) → W p l e rmX11_test s m args below meth c H locs 0 0 QQ (F0 m pc ls [.int u.1]) := by
    intro pc H locs ls u hu hP hD hS hz hd; subst hu; exact hr pc H locs ls _ rfl hP hD hS hz hd
  clear hr
  have hl : lv_has ls 3 [(0, .ref h0), (1, .int p1)] := hl
  have hinX11 : ∀ w ∈ wsX110, w ∈ wsX11_test := fun _ h => List.mem_cons_of_mem _ (List.mem_append_right _ h)
  unfold fX11_test at h
  suffices key : ∀ (H : Heap) (locs : List Loc), va_P D vwCl (flat [WX11 cy h0 a0 s0]) H → va_S A s.heap H locs → W p l e rmX11_test s m args below meth c H locs 0 0 QQ (F0 m 0 ls []) from key _ _ hP va_S.rf
  clear hP
  intro H locs hP hS
  have J102 : ∀ (y102_2 : Int32) (t102_0 : Rc) (H : Heap) (locs : List Loc) (ls : Array Slot), lv_has ls 3 [(0, .ref h0), (1, .int p1), (2, .int y102_2)] → va_P D vwCl (flat [WX11 cy h0 a0 t102_0]) H → va_D A (flat [WX11 cy h0 a0 t102_0]) → va_S A s.heap H locs → fX11_test_J102 p1 y102_2 t102_0 = some res → W p l e rmX11_test s m args below meth c H locs 0 0 QQ (F0 m 102 ls []) := by
    intro y102_2 t102_0 H locs ls hl hP hD hS h
    unfold fX11_test_J102 at h
    refine lv_aload_n hx hb dX11_test_102 rfl (lv_at hl 0 rfl) ?_
    refine va_get (D := D) (ci := 11) (v := .ref (a0 0)) (C := RX11) (T := TX11) (N := 38) hx hb hts hinX11 hown hK hP 0 rfl rfl 0 (by decide) (hts (.fieldLink RX11 7 "KneeBenchModel" "at" "[I") (List.mem_of_getElem? (i := 1) rfl)) (fun _ h9 => h9) rfl dX11_test_103 ?_
    refine lv_iload_n hx hb dX11_test_106 rfl (lv_at hl 1 rfl) ?_
    refine lv_iconst (v := 5) hx hb dX11_test_107 (by decide) ?_
    refine lv_iadd hx hb dX11_test_108 ?_
    refine lv_aload_n hx hb dX11_test_109 rfl (lv_at hl 0 rfl) ?_
    refine va_get (D := D) (ci := 11) (v := .int (gi t102_0 15)) (C := RX11) (T := TX11) (N := 38) hx hb hts hinX11 hown hK hP 0 rfl rfl 15 (by decide) (hts (.fieldLink RX11 117 "KneeBenchModel" "value" "I") (List.mem_of_getElem? (i := 2) rfl)) (fun _ h9 => h9) rfl dX11_test_110 ?_
    obtain ⟨g1, h⟩ := gd_elim h
    obtain ⟨s0_2, es, h⟩ := lt_elim h
    refine va_iast hx hb hK hP hD hS 1 1 rfl rfl (inb_in g1) dX11_test_113 (fun H locs hP hD hS => ?_)
    have hP : va_P D vwCl (flat [WX11 cy h0 a0 s0_2]) H := by rw [es]; exact hP
    have hD : va_D A (flat [WX11 cy h0 a0 s0_2]) := by rw [es]; exact hD
    clear es
    refine lv_aload_n hx hb dX11_test_114 rfl (lv_at hl 0 rfl) ?_
    obtain ⟨r3, hr3, h⟩ := bd_elim h
    refine ca_v (w' := [WX11 cy h0 a0 r3]) (rn_V (As := []) (rest := []) ⟨hx, hb, hml, hown, hts⟩ (kX11_ahead l D cy h0 a0 s0_2 r3 hr3 H.size) (cwV 0 hts gX11_test_X11_ahead rfl rfl rfl (by decide +kernel) ⟨Nat.le_of_ble_eq_true rfl, Nat.le_of_ble_eq_true rfl⟩) hK hN hP hD [0] rfl rfl (ci := 11) (q0 := 0) rfl rfl rfl rfl hl.1 rfl (Nat.le_of_ble_eq_true rfl) dX11_test_115 ⟨Nat.le_refl 0, Nat.le_refl 0⟩) hP hD hS hA [0] ⟨rfl, rfl, rfl, rfl⟩ (fun H locs hP hD hS => ?_)
    refine lv_aload_n hx hb dX11_test_118 rfl (lv_at hl 0 rfl) ?_
    refine lv_iload_n hx hb dX11_test_119 rfl (lv_at hl 1 rfl) ?_
    refine lv_iconst (v := 2) hx hb dX11_test_120 (by decide) ?_
    refine lv_iadd hx hb dX11_test_121 ?_
    refine lv_iconst (v := 0) hx hb dX11_test_122 (by decide) ?_
    refine lv_iload_n hx hb dX11_test_123 rfl (lv_at hl 2 rfl) ?_
    refine lv_bipush (v := 28) hx hb dX11_test_124 (by decide) ?_
    refine lv_icmp_ne (tgt := 134) hx hb dX11_test_126 (by decide) (fun c4 => ?_) (fun c4 => ?_)
    · replace h := (if_neg c4).symm.trans h
      refine lv_bipush (v := 60) hx hb dX11_test_134 (by decide) ?_
      obtain ⟨r5, hr5, h⟩ := bd_elim h
      refine ca_z (w' := [WX11 cy h0 a0 r5.2]) (rn_V (As := [.int (p1 + (2 : Int32)), .int (0 : Int32), .int (60 : Int32)]) (rest := []) ⟨hx, hb, hml, hown, hts⟩ (kX11_number l D cy h0 a0 r3 (p1 + (2 : Int32)) (0 : Int32) (60 : Int32) r5 hr5 H.size) (cwV 3 hts gX11_test_X11_number rfl rfl rfl (by decide +kernel) ⟨Nat.le_of_ble_eq_true rfl, Nat.le_of_ble_eq_true rfl⟩) hK hN hP hD [0] rfl rfl (ci := 11) (q0 := 0) rfl rfl rfl rfl hl.1 rfl (Nat.le_of_ble_eq_true rfl) dX11_test_136 ⟨Nat.le_refl 0, Nat.le_refl 0⟩) hP hD hS hA [0] ⟨rfl, rfl, rfl, rfl⟩ (fun b6 H locs hP hD hS => ?_)
      exact hret 139 H locs ls (r5.1, r5.2) (Option.some.inj h) hP hD hS b6 dX11_test_139
    · replace h := (if_pos c4).symm.trans h
      refine lv_bipush (v := 64) hx hb dX11_test_129 (by decide) ?_
      refine lv_goto (tgt := 136) hx hb dX11_test_131 (by decide) ?_
      obtain ⟨r7, hr7, h⟩ := bd_elim h
      refine ca_z (w' := [WX11 cy h0 a0 r7.2]) (rn_V (As := [.int (p1 + (2 : Int32)), .int (0 : Int32), .int (64 : Int32)]) (rest := []) ⟨hx, hb, hml, hown, hts⟩ (kX11_number l D cy h0 a0 r3 (p1 + (2 : Int32)) (0 : Int32) (64 : Int32) r7 hr7 H.size) (cwV 3 hts gX11_test_X11_number rfl rfl rfl (by decide +kernel) ⟨Nat.le_of_ble_eq_true rfl, Nat.le_of_ble_eq_true rfl⟩) hK hN hP hD [0] rfl rfl (ci := 11) (q0 := 0) rfl rfl rfl rfl hl.1 rfl (Nat.le_of_ble_eq_true rfl) dX11_test_136 ⟨Nat.le_refl 0, Nat.le_refl 0⟩) hP hD hS hA [0] ⟨rfl, rfl, rfl, rfl⟩ (fun b8 H locs hP hD hS => ?_)
      exact hret 139 H locs ls (r7.1, r7.2) (Option.some.inj h) hP hD hS b8 dX11_test_139
  have J69 : ∀ (y69_2 : Int32) (t69_0 : Rc) (H : Heap) (locs : List Loc) (ls : Array Slot), lv_has ls 3 [(0, .ref h0), (1, .int p1), (2, .int y69_2)] → va_P D vwCl (flat [WX11 cy h0 a0 t69_0]) H → va_D A (flat [WX11 cy h0 a0 t69_0]) → va_S A s.heap H locs → fX11_test_J69 p1 y69_2 t69_0 = some res → W p l e rmX11_test s m args below meth c H locs 0 0 QQ (F0 m 69 ls []) := by
    intro y69_2 t69_0 H locs ls hl hP hD hS h
    unfold fX11_test_J69 at h
    refine lv_aload_n hx hb dX11_test_69 rfl (lv_at hl 0 rfl) ?_
    refine lv_bipush (v := 60) hx hb dX11_test_70 (by decide) ?_
    refine ca_z (w' := [WX11 cy h0 a0 t69_0]) (rn_V (As := [.int (60 : Int32)]) (rest := []) ⟨hx, hb, hml, hown, hts⟩ (kX11_isSign l D cy h0 a0 t69_0 (60 : Int32) _ rfl H.size) (cwV 1 hts gX11_test_X11_isSign rfl rfl rfl (by decide +kernel) ⟨Nat.le_of_ble_eq_true rfl, Nat.le_of_ble_eq_true rfl⟩) hK hN hP hD [0] rfl rfl (ci := 11) (q0 := 0) rfl rfl rfl rfl hl.1 rfl (Nat.le_of_ble_eq_true rfl) dX11_test_72 ⟨Nat.le_refl 0, Nat.le_refl 0⟩) hP hD hS hA [0] ⟨rfl, rfl, rfl, rfl⟩ (fun b9 H locs hP hD hS => ?_)
    refine lv_if_ne (tgt := 102) hx hb dX11_test_75 (by decide) (fun c10 => ?_) (fun c10 => ?_)
    · replace h := (if_neg c10).symm.trans h
      exact J102 y69_2 t69_0 H locs ls (lv_sub hl [0, 1, 2] rfl) hP hD hS h
    · replace h := (if_pos c10).symm.trans h
      refine lv_aload_n hx hb dX11_test_78 rfl (lv_at hl 0 rfl) ?_
      refine lv_bipush (v := 62) hx hb dX11_test_79 (by decide) ?_
      refine ca_z (w' := [WX11 cy h0 a0 t69_0]) (rn_V (As := [.int (62 : Int32)]) (rest := []) ⟨hx, hb, hml, hown, hts⟩ (kX11_isSign l D cy h0 a0 t69_0 (62 : Int32) _ rfl H.size) (cwV 1 hts gX11_test_X11_isSign rfl rfl rfl (by decide +kernel) ⟨Nat.le_of_ble_eq_true rfl, Nat.le_of_ble_eq_true rfl⟩) hK hN hP hD [0] rfl rfl (ci := 11) (q0 := 0) rfl rfl rfl rfl hl.1 rfl (Nat.le_of_ble_eq_true rfl) dX11_test_81 ⟨Nat.le_refl 0, Nat.le_refl 0⟩) hP hD hS hA [0] ⟨rfl, rfl, rfl, rfl⟩ (fun b11 H locs hP hD hS => ?_)
      refine lv_if_ne (tgt := 102) hx hb dX11_test_84 (by decide) (fun c12 => ?_) (fun c12 => ?_)
      · replace h := (if_neg c12).symm.trans h
        exact J102 y69_2 t69_0 H locs ls (lv_sub hl [0, 1, 2] rfl) hP hD hS h
      · replace h := (if_pos c12).symm.trans h
        refine lv_aload_n hx hb dX11_test_87 rfl (lv_at hl 0 rfl) ?_
        refine lv_bipush (v := 61) hx hb dX11_test_88 (by decide) ?_
        refine ca_z (w' := [WX11 cy h0 a0 t69_0]) (rn_V (As := [.int (61 : Int32)]) (rest := []) ⟨hx, hb, hml, hown, hts⟩ (kX11_isSign l D cy h0 a0 t69_0 (61 : Int32) _ rfl H.size) (cwV 1 hts gX11_test_X11_isSign rfl rfl rfl (by decide +kernel) ⟨Nat.le_of_ble_eq_true rfl, Nat.le_of_ble_eq_true rfl⟩) hK hN hP hD [0] rfl rfl (ci := 11) (q0 := 0) rfl rfl rfl rfl hl.1 rfl (Nat.le_of_ble_eq_true rfl) dX11_test_90 ⟨Nat.le_refl 0, Nat.le_refl 0⟩) hP hD hS hA [0] ⟨rfl, rfl, rfl, rfl⟩ (fun b13 H locs hP hD hS => ?_)
        refine lv_if_ne (tgt := 102) hx hb dX11_test_93 (by decide) (fun c14 => ?_) (fun c14 => ?_)
        · replace h := (if_neg c14).symm.trans h
          exact J102 y69_2 t69_0 H locs ls (lv_sub hl [0, 1, 2] rfl) hP hD hS h
        · replace h := (if_pos c14).symm.trans h
          refine lv_aload_n hx hb dX11_test_96 rfl (lv_at hl 0 rfl) ?_
          refine lv_iconst (v := 2) hx hb dX11_test_97 (by decide) ?_
          obtain ⟨r15, hr15, h⟩ := lt_elim h
          refine ca_z (w' := [WX11 cy h0 a0 r15.2]) (rn_V (As := [.int (2 : Int32)]) (rest := []) ⟨hx, hb, hml, hown, hts⟩ (kX11_fails l D cy h0 a0 t69_0 (2 : Int32) r15 hr15.symm H.size) (cwV 1 hts gX11_test_X11_fails rfl rfl rfl (by decide +kernel) ⟨Nat.le_of_ble_eq_true rfl, Nat.le_of_ble_eq_true rfl⟩) hK hN hP hD [0] rfl rfl (ci := 11) (q0 := 0) rfl rfl rfl rfl hl.1 rfl (Nat.le_of_ble_eq_true rfl) dX11_test_98 ⟨Nat.le_refl 0, Nat.le_refl 0⟩) hP hD hS hA [0] ⟨rfl, rfl, rfl, rfl⟩ (fun b16 H locs hP hD hS => ?_)
          exact hret 101 H locs ls (r15.1, r15.2) (Option.some.inj h) hP hD hS b16 dX11_test_101
  refine lv_aload_n hx hb dX11_test_0 rfl (lv_at hl 0 rfl) ?_
  refine va_ldcS hx hb hown hX.1.2 dX11_test_1 ?_
  obtain ⟨r17, hr17, h⟩ := bd_elim h
  refine ca_i (w' := [WX11 cy h0 a0 s0]) (rn_V2 (As := [.ref (S 2)]) (rest := []) ⟨hx, hb, hml, hown, hts⟩ (kX11_inWords S l D cy h0 a0 s0 r17 hr17 H.size) (cwV 1 hts gX11_test_X11_inWords rfl rfl rfl (by decide +kernel) ⟨Nat.le_of_ble_eq_true rfl, Nat.le_of_ble_eq_true rfl⟩) hK hN hX hP hD hS hA [0] rfl rfl (ci := 11) (q0 := 0) rfl rfl rfl rfl hl.1 rfl (Nat.le_of_ble_eq_true rfl) dX11_test_3 ⟨Nat.le_refl 0, Nat.le_refl 0⟩) hP hD hS hA [0] ⟨rfl, rfl, rfl, rfl⟩ (fun H locs hP hD hS => ?_)
  refine lv_istore_n (lv' := [(2, .int r17), (0, .ref h0), (1, .int p1)]) hx hb dX11_test_6 rfl hl (by decide) rfl (fun ls hl => ?_)
  refine lv_iload_n hx hb dX11_test_7 rfl (lv_at hl 0 rfl) ?_
  refine lv_bipush (v := 27) hx hb dX11_test_8 (by decide) ?_
  refine lv_icmp_ge (tgt := 19) hx hb dX11_test_10 (by decide) (fun c18 => ?_) (fun c18 => ?_)
  · replace h := (if_pos c18).symm.trans h
    refine lv_aload_n hx hb dX11_test_19 rfl (lv_at hl 1 rfl) ?_
    refine va_get (D := D) (ci := 11) (v := .ref (a0 0)) (C := RX11) (T := TX11) (N := 38) hx hb hts hinX11 hown hK hP 0 rfl rfl 0 (by decide) (hts (.fieldLink RX11 7 "KneeBenchModel" "at" "[I") (List.mem_of_getElem? (i := 1) rfl)) (fun _ h9 => h9) rfl dX11_test_20 ?_
    refine lv_iload_n hx hb dX11_test_23 rfl (lv_at hl 2 rfl) ?_
    refine lv_sipush (v := 2300) hx hb dX11_test_24 (by decide) ?_
    refine lv_iload_n hx hb dX11_test_27 rfl (lv_at hl 0 rfl) ?_
    refine lv_iadd hx hb dX11_test_28 ?_
    obtain ⟨g19, h⟩ := gd_elim h
    obtain ⟨s0_20, es, h⟩ := lt_elim h
    refine va_iast hx hb hK hP hD hS 1 1 rfl rfl (inb_in g19) dX11_test_29 (fun H locs hP hD hS => ?_)
    have hP : va_P D vwCl (flat [WX11 cy h0 a0 s0_20]) H := by rw [es]; exact hP
    have hD : va_D A (flat [WX11 cy h0 a0 s0_20]) := by rw [es]; exact hD
    clear es
    refine lv_aload_n hx hb dX11_test_30 rfl (lv_at hl 1 rfl) ?_
    obtain ⟨r21, hr21, h⟩ := bd_elim h
    refine ca_v (w' := [WX11 cy h0 a0 r21]) (rn_V (As := []) (rest := []) ⟨hx, hb, hml, hown, hts⟩ (kX11_ahead l D cy h0 a0 s0_20 r21 hr21 H.size) (cwV 0 hts gX11_test_X11_ahead rfl rfl rfl (by decide +kernel) ⟨Nat.le_of_ble_eq_true rfl, Nat.le_of_ble_eq_true rfl⟩) hK hN hP hD [0] rfl rfl (ci := 11) (q0 := 0) rfl rfl rfl rfl hl.1 rfl (Nat.le_of_ble_eq_true rfl) dX11_test_31 ⟨Nat.le_refl 0, Nat.le_refl 0⟩) hP hD hS hA [0] ⟨rfl, rfl, rfl, rfl⟩ (fun H locs hP hD hS => ?_)
    refine lv_iload_n hx hb dX11_test_34 rfl (lv_at hl 0 rfl) ?_
    refine lv_bipush (v := 27) hx hb dX11_test_35 (by decide) ?_
    refine lv_icmp_ne (tgt := 51) hx hb dX11_test_37 (by decide) (fun c22 => ?_) (fun c22 => ?_)
    · replace h := (if_neg c22).symm.trans h
      refine lv_iload_n hx hb dX11_test_51 rfl (lv_at hl 0 rfl) ?_
      refine lv_bipush (v := 28) hx hb dX11_test_52 (by decide) ?_
      refine lv_icmp_ne (tgt := 69) hx hb dX11_test_54 (by decide) (fun c23 => ?_) (fun c23 => ?_)
      · replace h := (if_neg c23).symm.trans h
        exact J69 r17 r21 H locs ls (lv_sub hl [1, 2, 0] rfl) hP hD hS h
      · replace h := (if_pos c23).symm.trans h
        refine lv_aload_n hx hb dX11_test_57 rfl (lv_at hl 1 rfl) ?_
        refine lv_iload_n hx hb dX11_test_58 rfl (lv_at hl 2 rfl) ?_
        refine lv_iconst (v := 1) hx hb dX11_test_59 (by decide) ?_
        refine lv_iadd hx hb dX11_test_60 ?_
        obtain ⟨r24, hr24, h⟩ := bd_elim h
        refine ca_z (w' := [WX11 cy h0 a0 r24.2]) (rn_V2 (As := [.int (p1 + (1 : Int32))]) (rest := []) ⟨hx, hb, hml, hown, hts⟩ (kX11_farmerTo S l D cy h0 a0 r21 (p1 + (1 : Int32)) r24 hr24 H.size) (cwV 1 hts gX11_test_X11_farmerTo rfl rfl rfl (by decide +kernel) ⟨Nat.le_of_ble_eq_true rfl, Nat.le_of_ble_eq_true rfl⟩) hK hN hX hP hD hS hA [0] rfl rfl (ci := 11) (q0 := 0) rfl rfl rfl rfl hl.1 rfl (Nat.le_of_ble_eq_true rfl) dX11_test_61 ⟨Nat.le_refl 0, Nat.le_refl 0⟩) hP hD hS hA [0] ⟨rfl, rfl, rfl, rfl⟩ (fun b25 H locs hP hD hS => ?_)
        refine lv_if_ne (tgt := 69) hx hb dX11_test_64 (by decide) (fun c26 => ?_) (fun c26 => ?_)
        · replace h := (if_neg c26).symm.trans h
          exact J69 r17 r24.2 H locs ls (lv_sub hl [1, 2, 0] rfl) hP hD hS h
        · replace h := (if_pos c26).symm.trans h
          refine lv_iconst (v := 0) hx hb dX11_test_67 (by decide) ?_
          exact hret 68 H locs ls ((0 : Int32), r24.2) (Option.some.inj h) hP hD hS (show isb (0 : Int32) = true by decide) dX11_test_68
    · replace h := (if_pos c22).symm.trans h
      refine lv_aload_n hx hb dX11_test_40 rfl (lv_at hl 1 rfl) ?_
      refine lv_iload_n hx hb dX11_test_41 rfl (lv_at hl 2 rfl) ?_
      refine lv_iconst (v := 1) hx hb dX11_test_42 (by decide) ?_
      refine lv_iadd hx hb dX11_test_43 ?_
      refine lv_iconst (v := 0) hx hb dX11_test_44 (by decide) ?_
      refine lv_bipush (v := 62) hx hb dX11_test_45 (by decide) ?_
      obtain ⟨r27, hr27, h⟩ := bd_elim h
      refine ca_z (w' := [WX11 cy h0 a0 r27.2]) (rn_V (As := [.int (p1 + (1 : Int32)), .int (0 : Int32), .int (62 : Int32)]) (rest := []) ⟨hx, hb, hml, hown, hts⟩ (kX11_number l D cy h0 a0 r21 (p1 + (1 : Int32)) (0 : Int32) (62 : Int32) r27 hr27 H.size) (cwV 3 hts gX11_test_X11_number rfl rfl rfl (by decide +kernel) ⟨Nat.le_of_ble_eq_true rfl, Nat.le_of_ble_eq_true rfl⟩) hK hN hP hD [0] rfl rfl (ci := 11) (q0 := 0) rfl rfl rfl rfl hl.1 rfl (Nat.le_of_ble_eq_true rfl) dX11_test_47 ⟨Nat.le_refl 0, Nat.le_refl 0⟩) hP hD hS hA [0] ⟨rfl, rfl, rfl, rfl⟩ (fun b28 H locs hP hD hS => ?_)
      exact hret 50 H locs ls (r27.1, r27.2) (Option.some.inj h) hP hD hS b28 dX11_test_50
  · replace h := (if_neg c18).symm.trans h
    refine lv_aload_n hx hb dX11_test_13 rfl (lv_at hl 1 rfl) ?_
    refine lv_iconst (v := 2) hx hb dX11_test_14 (by decide) ?_
    obtain ⟨r29, hr29, h⟩ := lt_elim h
    refine ca_z (w' := [WX11 cy h0 a0 r29.2]) (rn_V (As := [.int (2 : Int32)]) (rest := []) ⟨hx, hb, hml, hown, hts⟩ (kX11_fails l D cy h0 a0 s0 (2 : Int32) r29 hr29.symm H.size) (cwV 1 hts gX11_test_X11_fails rfl rfl rfl (by decide +kernel) ⟨Nat.le_of_ble_eq_true rfl, Nat.le_of_ble_eq_true rfl⟩) hK hN hP hD [0] rfl rfl (ci := 11) (q0 := 0) rfl rfl rfl rfl hl.1 rfl (Nat.le_of_ble_eq_true rfl) dX11_test_15 ⟨Nat.le_refl 0, Nat.le_refl 0⟩) hP hD hS hA [0] ⟨rfl, rfl, rfl, rfl⟩ (fun b30 H locs hP hD hS => ?_)
    exact hret 18 H locs ls (r29.1, r29.2) (Option.some.inj h) hP hD hS b30 dX11_test_18
set_option maxRecDepth 20000 in
theorem ggX11_seasonOrder_X11_number : GoodIn wsX11_seasonOrder wsX11_number := goodIn_r _ [5, 6, 7, 8, 9, 10, 11, 4, 12, 13, 14, 15, 16, 17, 18, 19, 20, 21, 22, 23, 24, 25, 26, 27, 28, 29, 30, 31, 32, 33, 34, 35, 36, 37, 124, 125, 126, 127, 128, 129, 130, 131, 132, 133, 134, 135, 136, 137, 138, 139, 140, 141, 142, 143, 144, 145, 146, 147, 148, 149, 150, 151, 152, 153, 154, 155, 156, 157, 158, 159, 160, 161] (by decide +kernel) (by decide +kernel)
set_option maxRecDepth 20000 in
theorem gX11_seasonOrder_X11_number : GoodIn wsX11_seasonOrder (wsV RX11 180 RX11 yX11_number wsX11_number) := goodIn_app (goodIn_of _ (by decide +kernel)) ggX11_seasonOrder_X11_number
set_option maxRecDepth 20000 in
theorem ggX11_seasonOrder_X11_farmerTo : GoodIn wsX11_seasonOrder wsX11_farmerTo := goodIn_r _ [41, 8, 42, 43, 44, 4, 45, 46, 47, 48, 49, 6, 20, 14, 50, 51, 52, 53, 54, 55, 56, 57, 58, 59, 60, 61, 62, 63, 64, 65, 66, 67, 68, 69, 70, 71, 72, 73, 74, 75, 76, 77, 78, 79, 80, 81, 82, 83, 84, 85, 86, 87, 88, 89, 90, 91, 92, 93, 94, 95, 96, 97, 98, 99, 100, 101, 102, 26, 27, 28, 29, 30, 31, 9, 10, 11, 12, 13, 15, 103, 104, 105, 106, 107, 108, 109, 110, 111, 16, 17, 18, 19, 7, 21, 22, 23, 24, 25, 32, 33, 34, 35, 36, 37, 124, 125, 126, 127, 128, 129, 130, 131, 132, 133, 134, 135, 136, 137, 138, 139, 140, 141, 142, 143, 144, 145, 146, 147, 148, 149, 150, 151, 152, 153, 154, 155, 156, 157, 158, 159, 160, 161] (by decide +kernel) (by decide +kernel)
set_option maxRecDepth 20000 in
theorem gX11_seasonOrder_X11_farmerTo : GoodIn wsX11_seasonOrder (wsV RX11 234 RX11 yX11_farmerTo wsX11_farmerTo) := goodIn_app (goodIn_of _ (by decide +kernel)) ggX11_seasonOrder_X11_farmerTo
set_option maxRecDepth 20000 in
theorem ggX11_seasonOrder_X11_wantWord : GoodIn wsX11_seasonOrder wsX11_wantWord := goodIn_r _ [115, 50, 51, 52, 4, 53, 6, 20, 14, 54, 55, 56, 57, 58, 59, 60, 61, 62, 63, 64, 65, 66, 67, 68, 69, 70, 71, 72, 73, 74, 75, 76, 77, 78, 79, 80, 81, 82, 83, 84, 85, 86, 87, 88, 89, 90, 91, 92, 93, 94, 95, 96, 97, 98, 99, 100, 101, 102, 26, 27, 28, 29, 30, 31, 9, 10, 11, 12, 13, 15, 16, 17, 18, 19, 7, 21, 22, 23, 24, 25, 32, 33, 34, 35, 36, 37, 124, 125, 126, 127, 128, 129, 130, 131, 132, 133, 134, 135, 136, 137, 138, 139, 140, 141, 142, 143, 144, 145, 146, 147, 148, 149, 150, 151, 152, 153, 154, 155, 156, 157, 158, 159, 160, 161] (by decide +kernel) (by decide +kernel)
set_option maxRecDepth 20000 in
theorem gX11_seasonOrder_X11_wantWord : GoodIn wsX11_seasonOrder (wsV RX11 184 RX11 yX11_wantWord wsX11_wantWord) := goodIn_app (goodIn_of _ (by decide +kernel)) ggX11_seasonOrder_X11_wantWord
set_option maxRecDepth 20000 in
theorem ggX11_seasonOrder_X11_test : GoodIn wsX11_seasonOrder wsX11_test := goodIn_r _ [119, 8, 7, 50, 51, 52, 4, 53, 6, 20, 14, 54, 55, 56, 57, 58, 59, 60, 61, 62, 63, 64, 65, 66, 67, 68, 69, 70, 71, 72, 73, 74, 75, 76, 77, 78, 79, 80, 81, 82, 83, 84, 85, 86, 87, 88, 89, 90, 91, 92, 93, 94, 95, 96, 97, 98, 99, 100, 101, 102, 26, 27, 28, 29, 30, 31, 9, 10, 11, 12, 13, 15, 16, 17, 18, 19, 21, 22, 23, 24, 25, 32, 33, 34, 35, 36, 37, 1, 2, 3, 5, 38, 39, 40, 41, 42, 43, 44, 45, 46, 47, 48, 49, 103, 104, 105, 106, 107, 108, 109, 110, 111, 120, 121, 122, 123, 124, 125, 126, 127, 128, 129, 130, 131, 132, 133, 134, 135, 136, 137, 138, 139, 140, 141, 142, 143, 144, 145, 146, 147, 148, 149, 150, 151, 152, 153, 154, 155, 156, 157, 158, 159, 160, 161] (by decide +kernel) (by decide +kernel)
set_option maxRecDepth 20000 in
theorem gX11_seasonOrder_X11_test : GoodIn wsX11_seasonOrder (wsV RX11 237 RX11 yX11_test wsX11_test) := goodIn_app (goodIn_of _ (by decide +kernel)) ggX11_seasonOrder_X11_test
theorem dX11_seasonOrder_0 : decode cX11_seasonOrder 0 = .ok (.iload_n 1, 1) := by decide +kernel
theorem dX11_seasonOrder_1 : decode cX11_seasonOrder 1 = .ok (.tableswitch 207 14 24 #[59, 207, 207, 207, 70, 110, 150, 179, 207, 190, 196], 59) := by decide +kernel
theorem dX11_seasonOrder_60 : decode cX11_seasonOrder 60 = .ok (.aload_n 0, 1) := by decide +kernel
theorem dX11_seasonOrder_61 : decode cX11_seasonOrder 61 = .ok (.iload_n 2, 1) := by decide +kernel
theorem dX11_seasonOrder_62 : decode cX11_seasonOrder 62 = .ok (.iconst 1, 1) := by decide +kernel
theorem dX11_seasonOrder_63 : decode cX11_seasonOrder 63 = .ok (.iadd, 1) := by decide +kernel
theorem dX11_seasonOrder_64 : decode cX11_seasonOrder 64 = .ok (.iconst 0, 1) := by decide +kernel
theorem dX11_seasonOrder_65 : decode cX11_seasonOrder 65 = .ok (.bipush 16, 2) := by decide +kernel
theorem dX11_seasonOrder_67 : decode cX11_seasonOrder 67 = .ok (.invokevirtual 180, 3) := by decide +kernel
theorem dX11_seasonOrder_70 : decode cX11_seasonOrder 70 = .ok (.ireturn, 1) := by decide +kernel
theorem dX11_seasonOrder_71 : decode cX11_seasonOrder 71 = .ok (.aload_n 0, 1) := by decide +kernel
theorem dX11_seasonOrder_72 : decode cX11_seasonOrder 72 = .ok (.iload_n 2, 1) := by decide +kernel
theorem dX11_seasonOrder_73 : decode cX11_seasonOrder 73 = .ok (.iconst 1, 1) := by decide +kernel
theorem dX11_seasonOrder_74 : decode cX11_seasonOrder 74 = .ok (.iadd, 1) := by decide +kernel
theorem dX11_seasonOrder_75 : decode cX11_seasonOrder 75 = .ok (.invokevirtual 234, 3) := by decide +kernel
theorem dX11_seasonOrder_78 : decode cX11_seasonOrder 78 = .ok (.ifCond .eq 31, 3) := by decide +kernel
theorem dX11_seasonOrder_81 : decode cX11_seasonOrder 81 = .ok (.aload_n 0, 1) := by decide +kernel
theorem dX11_seasonOrder_82 : decode cX11_seasonOrder 82 = .ok (.ldc 168, 2) := by decide +kernel
theorem dX11_seasonOrder_84 : decode cX11_seasonOrder 84 = .ok (.bipush 22, 2) := by decide +kernel
theorem dX11_seasonOrder_86 : decode cX11_seasonOrder 86 = .ok (.invokevirtual 184, 3) := by decide +kernel
theorem dX11_seasonOrder_89 : decode cX11_seasonOrder 89 = .ok (.ifCond .eq 20, 3) := by decide +kernel
theorem dX11_seasonOrder_92 : decode cX11_seasonOrder 92 = .ok (.aload_n 0, 1) := by decide +kernel
theorem dX11_seasonOrder_93 : decode cX11_seasonOrder 93 = .ok (.iload_n 2, 1) := by decide +kernel
theorem dX11_seasonOrder_94 : decode cX11_seasonOrder 94 = .ok (.iconst 2, 1) := by decide +kernel
theorem dX11_seasonOrder_95 : decode cX11_seasonOrder 95 = .ok (.iadd, 1) := by decide +kernel
theorem dX11_seasonOrder_96 : decode cX11_seasonOrder 96 = .ok (.iconst 0, 1) := by decide +kernel
theorem dX11_seasonOrder_97 : decode cX11_seasonOrder 97 = .ok (.bipush 59, 2) := by decide +kernel
theorem dX11_seasonOrder_99 : decode cX11_seasonOrder 99 = .ok (.invokevirtual 180, 3) := by decide +kernel
theorem dX11_seasonOrder_102 : decode cX11_seasonOrder 102 = .ok (.ifCond .eq 7, 3) := by decide +kernel
theorem dX11_seasonOrder_105 : decode cX11_seasonOrder 105 = .ok (.iconst 1, 1) := by decide +kernel
theorem dX11_seasonOrder_106 : decode cX11_seasonOrder 106 = .ok (.goto 4, 3) := by decide +kernel
theorem dX11_seasonOrder_109 : decode cX11_seasonOrder 109 = .ok (.iconst 0, 1) := by decide +kernel
theorem dX11_seasonOrder_110 : decode cX11_seasonOrder 110 = .ok (.ireturn, 1) := by decide +kernel
theorem dX11_seasonOrder_111 : decode cX11_seasonOrder 111 = .ok (.aload_n 0, 1) := by decide +kernel
theorem dX11_seasonOrder_112 : decode cX11_seasonOrder 112 = .ok (.iload_n 2, 1) := by decide +kernel
theorem dX11_seasonOrder_113 : decode cX11_seasonOrder 113 = .ok (.iconst 1, 1) := by decide +kernel
theorem dX11_seasonOrder_114 : decode cX11_seasonOrder 114 = .ok (.iadd, 1) := by decide +kernel
theorem dX11_seasonOrder_115 : decode cX11_seasonOrder 115 = .ok (.invokevirtual 234, 3) := by decide +kernel
theorem dX11_seasonOrder_118 : decode cX11_seasonOrder 118 = .ok (.ifCond .eq 31, 3) := by decide +kernel
theorem dX11_seasonOrder_121 : decode cX11_seasonOrder 121 = .ok (.aload_n 0, 1) := by decide +kernel
theorem dX11_seasonOrder_122 : decode cX11_seasonOrder 122 = .ok (.ldc 168, 2) := by decide +kernel
theorem dX11_seasonOrder_124 : decode cX11_seasonOrder 124 = .ok (.bipush 22, 2) := by decide +kernel
theorem dX11_seasonOrder_126 : decode cX11_seasonOrder 126 = .ok (.invokevirtual 184, 3) := by decide +kernel
theorem dX11_seasonOrder_129 : decode cX11_seasonOrder 129 = .ok (.ifCond .eq 20, 3) := by decide +kernel
theorem dX11_seasonOrder_132 : decode cX11_seasonOrder 132 = .ok (.aload_n 0, 1) := by decide +kernel
theorem dX11_seasonOrder_133 : decode cX11_seasonOrder 133 = .ok (.iload_n 2, 1) := by decide +kernel
theorem dX11_seasonOrder_134 : decode cX11_seasonOrder 134 = .ok (.iconst 2, 1) := by decide +kernel
theorem dX11_seasonOrder_135 : decode cX11_seasonOrder 135 = .ok (.iadd, 1) := by decide +kernel
theorem dX11_seasonOrder_136 : decode cX11_seasonOrder 136 = .ok (.iconst 0, 1) := by decide +kernel
theorem dX11_seasonOrder_137 : decode cX11_seasonOrder 137 = .ok (.bipush 60, 2) := by decide +kernel
theorem dX11_seasonOrder_139 : decode cX11_seasonOrder 139 = .ok (.invokevirtual 180, 3) := by decide +kernel
theorem dX11_seasonOrder_142 : decode cX11_seasonOrder 142 = .ok (.ifCond .eq 7, 3) := by decide +kernel
theorem dX11_seasonOrder_145 : decode cX11_seasonOrder 145 = .ok (.iconst 1, 1) := by decide +kernel
theorem dX11_seasonOrder_146 : decode cX11_seasonOrder 146 = .ok (.goto 4, 3) := by decide +kernel
theorem dX11_seasonOrder_149 : decode cX11_seasonOrder 149 = .ok (.iconst 0, 1) := by decide +kernel
theorem dX11_seasonOrder_150 : decode cX11_seasonOrder 150 = .ok (.ireturn, 1) := by decide +kernel
theorem dX11_seasonOrder_151 : decode cX11_seasonOrder 151 = .ok (.aload_n 0, 1) := by decide +kernel
theorem dX11_seasonOrder_152 : decode cX11_seasonOrder 152 = .ok (.iload_n 2, 1) := by decide +kernel
theorem dX11_seasonOrder_153 : decode cX11_seasonOrder 153 = .ok (.iconst 1, 1) := by decide +kernel
theorem dX11_seasonOrder_154 : decode cX11_seasonOrder 154 = .ok (.iadd, 1) := by decide +kernel
theorem dX11_seasonOrder_155 : decode cX11_seasonOrder 155 = .ok (.invokevirtual 234, 3) := by decide +kernel
theorem dX11_seasonOrder_158 : decode cX11_seasonOrder 158 = .ok (.ifCond .eq 20, 3) := by decide +kernel
theorem dX11_seasonOrder_161 : decode cX11_seasonOrder 161 = .ok (.aload_n 0, 1) := by decide +kernel
theorem dX11_seasonOrder_162 : decode cX11_seasonOrder 162 = .ok (.iload_n 2, 1) := by decide +kernel
theorem dX11_seasonOrder_163 : decode cX11_seasonOrder 163 = .ok (.iconst 2, 1) := by decide +kernel
theorem dX11_seasonOrder_164 : decode cX11_seasonOrder 164 = .ok (.iadd, 1) := by decide +kernel
theorem dX11_seasonOrder_165 : decode cX11_seasonOrder 165 = .ok (.iconst 0, 1) := by decide +kernel
theorem dX11_seasonOrder_166 : decode cX11_seasonOrder 166 = .ok (.bipush 16, 2) := by decide +kernel
theorem dX11_seasonOrder_168 : decode cX11_seasonOrder 168 = .ok (.invokevirtual 180, 3) := by decide +kernel
theorem dX11_seasonOrder_171 : decode cX11_seasonOrder 171 = .ok (.ifCond .eq 7, 3) := by decide +kernel
theorem dX11_seasonOrder_174 : decode cX11_seasonOrder 174 = .ok (.iconst 1, 1) := by decide +kernel
theorem dX11_seasonOrder_175 : decode cX11_seasonOrder 175 = .ok (.goto 4, 3) := by decide +kernel
theorem dX11_seasonOrder_178 : decode cX11_seasonOrder 178 = .ok (.iconst 0, 1) := by decide +kernel
theorem dX11_seasonOrder_179 : decode cX11_seasonOrder 179 = .ok (.ireturn, 1) := by decide +kernel
theorem dX11_seasonOrder_180 : decode cX11_seasonOrder 180 = .ok (.aload_n 0, 1) := by decide +kernel
theorem dX11_seasonOrder_181 : decode cX11_seasonOrder 181 = .ok (.iload_n 2, 1) := by decide +kernel
theorem dX11_seasonOrder_182 : decode cX11_seasonOrder 182 = .ok (.iconst 1, 1) := by decide +kernel
theorem dX11_seasonOrder_183 : decode cX11_seasonOrder 183 = .ok (.iadd, 1) := by decide +kernel
theorem dX11_seasonOrder_184 : decode cX11_seasonOrder 184 = .ok (.iconst 0, 1) := by decide +kernel
theorem dX11_seasonOrder_185 : decode cX11_seasonOrder 185 = .ok (.bipush 59, 2) := by decide +kernel
theorem dX11_seasonOrder_187 : decode cX11_seasonOrder 187 = .ok (.invokevirtual 180, 3) := by decide +kernel
theorem dX11_seasonOrder_190 : decode cX11_seasonOrder 190 = .ok (.ireturn, 1) := by decide +kernel
theorem dX11_seasonOrder_191 : decode cX11_seasonOrder 191 = .ok (.aload_n 0, 1) := by decide +kernel
theorem dX11_seasonOrder_192 : decode cX11_seasonOrder 192 = .ok (.iload_n 2, 1) := by decide +kernel
theorem dX11_seasonOrder_193 : decode cX11_seasonOrder 193 = .ok (.invokevirtual 237, 3) := by decide +kernel
theorem dX11_seasonOrder_196 : decode cX11_seasonOrder 196 = .ok (.ireturn, 1) := by decide +kernel
theorem dX11_seasonOrder_197 : decode cX11_seasonOrder 197 = .ok (.aload_n 0, 1) := by decide +kernel
theorem dX11_seasonOrder_198 : decode cX11_seasonOrder 198 = .ok (.iload_n 2, 1) := by decide +kernel
theorem dX11_seasonOrder_199 : decode cX11_seasonOrder 199 = .ok (.iconst 1, 1) := by decide +kernel
theorem dX11_seasonOrder_200 : decode cX11_seasonOrder 200 = .ok (.iadd, 1) := by decide +kernel
theorem dX11_seasonOrder_201 : decode cX11_seasonOrder 201 = .ok (.iconst 1, 1) := by decide +kernel
theorem dX11_seasonOrder_202 : decode cX11_seasonOrder 202 = .ok (.bipush 99, 2) := by decide +kernel
theorem dX11_seasonOrder_204 : decode cX11_seasonOrder 204 = .ok (.invokevirtual 180, 3) := by decide +kernel
theorem dX11_seasonOrder_207 : decode cX11_seasonOrder 207 = .ok (.ireturn, 1) := by decide +kernel
theorem dX11_seasonOrder_208 : decode cX11_seasonOrder 208 = .ok (.iconst 1, 1) := by decide +kernel
theorem dX11_seasonOrder_209 : decode cX11_seasonOrder 209 = .ok (.ireturn, 1) := by decide +kernel
abbrev rmX11_seasonOrder : Room := { frames := 9, cells := 0, slots := 0, locals := 198 }
set_option maxHeartbeats 4000000 in
set_option maxRecDepth 100000 in
theorem kX11_seasonOrder (S : Nat → Nat) (l : Launch) (D : va_G) (cy : Nat → ClassId) (h0 : Nat) (a0 : Nat → Nat) (s0 : Rc) (p1 : Int32) (p2 : Int32) (res : Int32 × Rc) (h : fX11_seasonOrder p1 p2 s0 = some res) : CZ2 S l D cy yX11_seasonOrder wsX11_seasonOrder rmX11_seasonOrder [.ref h0, .int p1, .int p2] (flat [WX11 cy h0 a0 s0]) (flat [WX11 cy h0 a0 res.2]) res.1 := by
  refine CZ2.of (cc := cX11_seasonOrder) (maxL := 3) (by decide) rfl (Nat.le_of_ble_eq_true rfl) ?_
  intro p e s m args below meth c A QQ ls E hX hr
  obtain ⟨hx, hb, hml, hown, hts, hK, hN, hP, hD, hA, hl⟩ := E
  have hret : ∀ (pc : Nat) (H : Heap) (locs : List Loc) (ls : Array Slot) (u : Int32 × Rc), u = res → va_P D vwCl (flat [WX11 cy h0 a0 u.2]) H → va_D A (flat [WX11 cy h0 a0 u.2]) → va_S A s.heap H locs → isb u.1 = true → decode cX11_seasonOrder pc = .ok (.ireturn, 1) → W p l e rmX11_seasonOrder s m args below meth c H locs 0 0 QQ (F0 m pc ls [.int u.1]) := by
    intro pc H locs ls u hu hP hD hS hz hd; subst hu; exact hr pc H locs ls _ rfl hP hD hS hz hd
  clear hr
  have hl : lv_has ls 3 [(0, .ref h0), (1, .int p1), (2, .int p2)] := hl
  unfold fX11_seasonOrder at h
  suffices key : ∀ (H : Heap) (locs : List Loc), va_P D vwCl (flat [WX11 cy h0 a0 s0]) H → va_S A s.heap H locs → W p l e rmX11_seasonOrder s m args below meth c H locs 0 0 QQ (F0 m 0 ls []) from key _ _ hP va_S.rf
  clear hP
  intro H locs hP hS
  refine lv_iload_n hx hb dX11_seasonOrder_0 rfl (lv_at hl 1 rfl) ?_
  by_cases c1 : p1 = (14 : Int32)
  · replace h := (if_pos c1).symm.trans h
    refine lv_tableIn (tgt := 60) hx hb dX11_seasonOrder_1 (by rw [c1]; decide) (by rw [c1]; decide) (by rw [c1]; rfl) (by decide) ?_
    refine lv_aload_n hx hb dX11_seasonOrder_60 rfl (lv_at hl 0 rfl) ?_
    refine lv_iload_n hx hb dX11_seasonOrder_61 rfl (lv_at hl 2 rfl) ?_
    refine lv_iconst (v := 1) hx hb dX11_seasonOrder_62 (by decide) ?_
    refine lv_iadd hx hb dX11_seasonOrder_63 ?_
    refine lv_iconst (v := 0) hx hb dX11_seasonOrder_64 (by decide) ?_
    refine lv_bipush (v := 16) hx hb dX11_seasonOrder_65 (by decide) ?_
    obtain ⟨r2, hr2, h⟩ := bd_elim h
    refine ca_z (w' := [WX11 cy h0 a0 r2.2]) (rn_V (As := [.int (p2 + (1 : Int32)), .int (0 : Int32), .int (16 : Int32)]) (rest := []) ⟨hx, hb, hml, hown, hts⟩ (kX11_number l D cy h0 a0 s0 (p2 + (1 : Int32)) (0 : Int32) (16 : Int32) r2 hr2 H.size) (cwV 3 hts gX11_seasonOrder_X11_number rfl rfl rfl (by decide +kernel) ⟨Nat.le_of_ble_eq_true rfl, Nat.le_of_ble_eq_true rfl⟩) hK hN hP hD [0] rfl rfl (ci := 11) (q0 := 0) rfl rfl rfl rfl hl.1 rfl (Nat.le_of_ble_eq_true rfl) dX11_seasonOrder_67 ⟨Nat.le_refl 0, Nat.le_refl 0⟩) hP hD hS hA [0] ⟨rfl, rfl, rfl, rfl⟩ (fun b3 H locs hP hD hS => ?_)
    exact hret 70 H locs ls (r2.1, r2.2) (Option.some.inj h) hP hD hS b3 dX11_seasonOrder_70
  replace h := (if_neg c1).symm.trans h
  by_cases c4 : p1 = (18 : Int32)
  · replace h := (if_pos c4).symm.trans h
    refine lv_tableIn (tgt := 71) hx hb dX11_seasonOrder_1 (by rw [c4]; decide) (by rw [c4]; decide) (by rw [c4]; rfl) (by decide) ?_
    refine lv_aload_n hx hb dX11_seasonOrder_71 rfl (lv_at hl 0 rfl) ?_
    refine lv_iload_n hx hb dX11_seasonOrder_72 rfl (lv_at hl 2 rfl) ?_
    refine lv_iconst (v := 1) hx hb dX11_seasonOrder_73 (by decide) ?_
    refine lv_iadd hx hb dX11_seasonOrder_74 ?_
    obtain ⟨r5, hr5, h⟩ := bd_elim h
    refine ca_z (w' := [WX11 cy h0 a0 r5.2]) (rn_V2 (As := [.int (p2 + (1 : Int32))]) (rest := []) ⟨hx, hb, hml, hown, hts⟩ (kX11_farmerTo S l D cy h0 a0 s0 (p2 + (1 : Int32)) r5 hr5 H.size) (cwV 1 hts gX11_seasonOrder_X11_farmerTo rfl rfl rfl (by decide +kernel) ⟨Nat.le_of_ble_eq_true rfl, Nat.le_of_ble_eq_true rfl⟩) hK hN hX hP hD hS hA [0] rfl rfl (ci := 11) (q0 := 0) rfl rfl rfl rfl hl.1 rfl (Nat.le_of_ble_eq_true rfl) dX11_seasonOrder_75 ⟨Nat.le_refl 0, Nat.le_refl 0⟩) hP hD hS hA [0] ⟨rfl, rfl, rfl, rfl⟩ (fun b6 H locs hP hD hS => ?_)
    refine lv_if_eq (tgt := 109) hx hb dX11_seasonOrder_78 (by decide) (fun c7 => ?_) (fun c7 => ?_)
    · replace h := (if_pos c7).symm.trans h
      refine lv_iconst (v := 0) hx hb dX11_seasonOrder_109 (by decide) ?_
      exact hret 110 H locs ls ((0 : Int32), r5.2) (Option.some.inj h) hP hD hS (show isb (0 : Int32) = true by decide) dX11_seasonOrder_110
    · replace h := (if_neg c7).symm.trans h
      refine lv_aload_n hx hb dX11_seasonOrder_81 rfl (lv_at hl 0 rfl) ?_
      refine va_ldcS hx hb hown hX.1.2 dX11_seasonOrder_82 ?_
      refine lv_bipush (v := 22) hx hb dX11_seasonOrder_84 (by decide) ?_
      obtain ⟨r8, hr8, h⟩ := bd_elim h
      refine ca_z (w' := [WX11 cy h0 a0 r8.2]) (rn_V2 (As := [.ref (S 2), .int (22 : Int32)]) (rest := []) ⟨hx, hb, hml, hown, hts⟩ (kX11_wantWord S l D cy h0 a0 r5.2 (22 : Int32) r8 hr8 H.size) (cwV 2 hts gX11_seasonOrder_X11_wantWord rfl rfl rfl (by decide +kernel) ⟨Nat.le_of_ble_eq_true rfl, Nat.le_of_ble_eq_true rfl⟩) hK hN hX hP hD hS hA [0] rfl rfl (ci := 11) (q0 := 0) rfl rfl rfl rfl hl.1 rfl (Nat.le_of_ble_eq_true rfl) dX11_seasonOrder_86 ⟨Nat.le_refl 0, Nat.le_refl 0⟩) hP hD hS hA [0] ⟨rfl, rfl, rfl, rfl⟩ (fun b9 H locs hP hD hS => ?_)
      refine lv_if_eq (tgt := 109) hx hb dX11_seasonOrder_89 (by decide) (fun c10 => ?_) (fun c10 => ?_)
      · replace h := (if_pos c10).symm.trans h
        refine lv_iconst (v := 0) hx hb dX11_seasonOrder_109 (by decide) ?_
        exact hret 110 H locs ls ((0 : Int32), r8.2) (Option.some.inj h) hP hD hS (show isb (0 : Int32) = true by decide) dX11_seasonOrder_110
      · replace h := (if_neg c10).symm.trans h
        refine lv_aload_n hx hb dX11_seasonOrder_92 rfl (lv_at hl 0 rfl) ?_
        refine lv_iload_n hx hb dX11_seasonOrder_93 rfl (lv_at hl 2 rfl) ?_
        refine lv_iconst (v := 2) hx hb dX11_seasonOrder_94 (by decide) ?_
        refine lv_iadd hx hb dX11_seasonOrder_95 ?_
        refine lv_iconst (v := 0) hx hb dX11_seasonOrder_96 (by decide) ?_
        refine lv_bipush (v := 59) hx hb dX11_seasonOrder_97 (by decide) ?_
        obtain ⟨r11, hr11, h⟩ := bd_elim h
        refine ca_z (w' := [WX11 cy h0 a0 r11.2]) (rn_V (As := [.int (p2 + (2 : Int32)), .int (0 : Int32), .int (59 : Int32)]) (rest := []) ⟨hx, hb, hml, hown, hts⟩ (kX11_number l D cy h0 a0 r8.2 (p2 + (2 : Int32)) (0 : Int32) (59 : Int32) r11 hr11 H.size) (cwV 3 hts gX11_seasonOrder_X11_number rfl rfl rfl (by decide +kernel) ⟨Nat.le_of_ble_eq_true rfl, Nat.le_of_ble_eq_true rfl⟩) hK hN hP hD [0] rfl rfl (ci := 11) (q0 := 0) rfl rfl rfl rfl hl.1 rfl (Nat.le_of_ble_eq_true rfl) dX11_seasonOrder_99 ⟨Nat.le_refl 0, Nat.le_refl 0⟩) hP hD hS hA [0] ⟨rfl, rfl, rfl, rfl⟩ (fun b12 H locs hP hD hS => ?_)
        refine lv_if_eq (tgt := 109) hx hb dX11_seasonOrder_102 (by decide) (fun c13 => ?_) (fun c13 => ?_)
        · replace h := (if_pos c13).symm.trans h
          refine lv_iconst (v := 0) hx hb dX11_seasonOrder_109 (by decide) ?_
          exact hret 110 H locs ls ((0 : Int32), r11.2) (Option.some.inj h) hP hD hS (show isb (0 : Int32) = true by decide) dX11_seasonOrder_110
        · replace h := (if_neg c13).symm.trans h
          refine lv_iconst (v := 1) hx hb dX11_seasonOrder_105 (by decide) ?_
          refine lv_goto (tgt := 110) hx hb dX11_seasonOrder_106 (by decide) ?_
          exact hret 110 H locs ls ((1 : Int32), r11.2) (Option.some.inj h) hP hD hS (show isb (1 : Int32) = true by decide) dX11_seasonOrder_110
  replace h := (if_neg c4).symm.trans h
  by_cases c14 : p1 = (19 : Int32)
  · replace h := (if_pos c14).symm.trans h
    refine lv_tableIn (tgt := 111) hx hb dX11_seasonOrder_1 (by rw [c14]; decide) (by rw [c14]; decide) (by rw [c14]; rfl) (by decide) ?_
    refine lv_aload_n hx hb dX11_seasonOrder_111 rfl (lv_at hl 0 rfl) ?_
    refine lv_iload_n hx hb dX11_seasonOrder_112 rfl (lv_at hl 2 rfl) ?_
    refine lv_iconst (v := 1) hx hb dX11_seasonOrder_113 (by decide) ?_
    refine lv_iadd hx hb dX11_seasonOrder_114 ?_
    obtain ⟨r15, hr15, h⟩ := bd_elim h
    refine ca_z (w' := [WX11 cy h0 a0 r15.2]) (rn_V2 (As := [.int (p2 + (1 : Int32))]) (rest := []) ⟨hx, hb, hml, hown, hts⟩ (kX11_farmerTo S l D cy h0 a0 s0 (p2 + (1 : Int32)) r15 hr15 H.size) (cwV 1 hts gX11_seasonOrder_X11_farmerTo rfl rfl rfl (by decide +kernel) ⟨Nat.le_of_ble_eq_true rfl, Nat.le_of_ble_eq_true rfl⟩) hK hN hX hP hD hS hA [0] rfl rfl (ci := 11) (q0 := 0) rfl rfl rfl rfl hl.1 rfl (Nat.le_of_ble_eq_true rfl) dX11_seasonOrder_115 ⟨Nat.le_refl 0, Nat.le_refl 0⟩) hP hD hS hA [0] ⟨rfl, rfl, rfl, rfl⟩ (fun b16 H locs hP hD hS => ?_)
    refine lv_if_eq (tgt := 149) hx hb dX11_seasonOrder_118 (by decide) (fun c17 => ?_) (fun c17 => ?_)
    · replace h := (if_pos c17).symm.trans h
      refine lv_iconst (v := 0) hx hb dX11_seasonOrder_149 (by decide) ?_
      exact hret 150 H locs ls ((0 : Int32), r15.2) (Option.some.inj h) hP hD hS (show isb (0 : Int32) = true by decide) dX11_seasonOrder_150
    · replace h := (if_neg c17).symm.trans h
      refine lv_aload_n hx hb dX11_seasonOrder_121 rfl (lv_at hl 0 rfl) ?_
      refine va_ldcS hx hb hown hX.1.2 dX11_seasonOrder_122 ?_
      refine lv_bipush (v := 22) hx hb dX11_seasonOrder_124 (by decide) ?_
      obtain ⟨r18, hr18, h⟩ := bd_elim h
      refine ca_z (w' := [WX11 cy h0 a0 r18.2]) (rn_V2 (As := [.ref (S 2), .int (22 : Int32)]) (rest := []) ⟨hx, hb, hml, hown, hts⟩ (kX11_wantWord S l D cy h0 a0 r15.2 (22 : Int32) r18 hr18 H.size) (cwV 2 hts gX11_seasonOrder_X11_wantWord rfl rfl rfl (by decide +kernel) ⟨Nat.le_of_ble_eq_true rfl, Nat.le_of_ble_eq_true rfl⟩) hK hN hX hP hD hS hA [0] rfl rfl (ci := 11) (q0 := 0) rfl rfl rfl rfl hl.1 rfl (Nat.le_of_ble_eq_true rfl) dX11_seasonOrder_126 ⟨Nat.le_refl 0, Nat.le_refl 0⟩) hP hD hS hA [0] ⟨rfl, rfl, rfl, rfl⟩ (fun b19 H locs hP hD hS => ?_)
      refine lv_if_eq (tgt := 149) hx hb dX11_seasonOrder_129 (by decide) (fun c20 => ?_) (fun c20 => ?_)
      · replace h := (if_pos c20).symm.trans h
        refine lv_iconst (v := 0) hx hb dX11_seasonOrder_149 (by decide) ?_
        exact hret 150 H locs ls ((0 : Int32), r18.2) (Option.some.inj h) hP hD hS (show isb (0 : Int32) = true by decide) dX11_seasonOrder_150
      · replace h := (if_neg c20).symm.trans h
        refine lv_aload_n hx hb dX11_seasonOrder_132 rfl (lv_at hl 0 rfl) ?_
        refine lv_iload_n hx hb dX11_seasonOrder_133 rfl (lv_at hl 2 rfl) ?_
        refine lv_iconst (v := 2) hx hb dX11_seasonOrder_134 (by decide) ?_
        refine lv_iadd hx hb dX11_seasonOrder_135 ?_
        refine lv_iconst (v := 0) hx hb dX11_seasonOrder_136 (by decide) ?_
        refine lv_bipush (v := 60) hx hb dX11_seasonOrder_137 (by decide) ?_
        obtain ⟨r21, hr21, h⟩ := bd_elim h
        refine ca_z (w' := [WX11 cy h0 a0 r21.2]) (rn_V (As := [.int (p2 + (2 : Int32)), .int (0 : Int32), .int (60 : Int32)]) (rest := []) ⟨hx, hb, hml, hown, hts⟩ (kX11_number l D cy h0 a0 r18.2 (p2 + (2 : Int32)) (0 : Int32) (60 : Int32) r21 hr21 H.size) (cwV 3 hts gX11_seasonOrder_X11_number rfl rfl rfl (by decide +kernel) ⟨Nat.le_of_ble_eq_true rfl, Nat.le_of_ble_eq_true rfl⟩) hK hN hP hD [0] rfl rfl (ci := 11) (q0 := 0) rfl rfl rfl rfl hl.1 rfl (Nat.le_of_ble_eq_true rfl) dX11_seasonOrder_139 ⟨Nat.le_refl 0, Nat.le_refl 0⟩) hP hD hS hA [0] ⟨rfl, rfl, rfl, rfl⟩ (fun b22 H locs hP hD hS => ?_)
        refine lv_if_eq (tgt := 149) hx hb dX11_seasonOrder_142 (by decide) (fun c23 => ?_) (fun c23 => ?_)
        · replace h := (if_pos c23).symm.trans h
          refine lv_iconst (v := 0) hx hb dX11_seasonOrder_149 (by decide) ?_
          exact hret 150 H locs ls ((0 : Int32), r21.2) (Option.some.inj h) hP hD hS (show isb (0 : Int32) = true by decide) dX11_seasonOrder_150
        · replace h := (if_neg c23).symm.trans h
          refine lv_iconst (v := 1) hx hb dX11_seasonOrder_145 (by decide) ?_
          refine lv_goto (tgt := 150) hx hb dX11_seasonOrder_146 (by decide) ?_
          exact hret 150 H locs ls ((1 : Int32), r21.2) (Option.some.inj h) hP hD hS (show isb (1 : Int32) = true by decide) dX11_seasonOrder_150
  replace h := (if_neg c14).symm.trans h
  by_cases c24 : p1 = (20 : Int32)
  · replace h := (if_pos c24).symm.trans h
    refine lv_tableIn (tgt := 151) hx hb dX11_seasonOrder_1 (by rw [c24]; decide) (by rw [c24]; decide) (by rw [c24]; rfl) (by decide) ?_
    refine lv_aload_n hx hb dX11_seasonOrder_151 rfl (lv_at hl 0 rfl) ?_
    refine lv_iload_n hx hb dX11_seasonOrder_152 rfl (lv_at hl 2 rfl) ?_
    refine lv_iconst (v := 1) hx hb dX11_seasonOrder_153 (by decide) ?_
    refine lv_iadd hx hb dX11_seasonOrder_154 ?_
    obtain ⟨r25, hr25, h⟩ := bd_elim h
    refine ca_z (w' := [WX11 cy h0 a0 r25.2]) (rn_V2 (As := [.int (p2 + (1 : Int32))]) (rest := []) ⟨hx, hb, hml, hown, hts⟩ (kX11_farmerTo S l D cy h0 a0 s0 (p2 + (1 : Int32)) r25 hr25 H.size) (cwV 1 hts gX11_seasonOrder_X11_farmerTo rfl rfl rfl (by decide +kernel) ⟨Nat.le_of_ble_eq_true rfl, Nat.le_of_ble_eq_true rfl⟩) hK hN hX hP hD hS hA [0] rfl rfl (ci := 11) (q0 := 0) rfl rfl rfl rfl hl.1 rfl (Nat.le_of_ble_eq_true rfl) dX11_seasonOrder_155 ⟨Nat.le_refl 0, Nat.le_refl 0⟩) hP hD hS hA [0] ⟨rfl, rfl, rfl, rfl⟩ (fun b26 H locs hP hD hS => ?_)
    refine lv_if_eq (tgt := 178) hx hb dX11_seasonOrder_158 (by decide) (fun c27 => ?_) (fun c27 => ?_)
    · replace h := (if_pos c27).symm.trans h
      refine lv_iconst (v := 0) hx hb dX11_seasonOrder_178 (by decide) ?_
      exact hret 179 H locs ls ((0 : Int32), r25.2) (Option.some.inj h) hP hD hS (show isb (0 : Int32) = true by decide) dX11_seasonOrder_179
    · replace h := (if_neg c27).symm.trans h
      refine lv_aload_n hx hb dX11_seasonOrder_161 rfl (lv_at hl 0 rfl) ?_
      refine lv_iload_n hx hb dX11_seasonOrder_162 rfl (lv_at hl 2 rfl) ?_
      refine lv_iconst (v := 2) hx hb dX11_seasonOrder_163 (by decide) ?_
      refine lv_iadd hx hb dX11_seasonOrder_164 ?_
      refine lv_iconst (v := 0) hx hb dX11_seasonOrder_165 (by decide) ?_
      refine lv_bipush (v := 16) hx hb dX11_seasonOrder_166 (by decide) ?_
      obtain ⟨r28, hr28, h⟩ := bd_elim h
      refine ca_z (w' := [WX11 cy h0 a0 r28.2]) (rn_V (As := [.int (p2 + (2 : Int32)), .int (0 : Int32), .int (16 : Int32)]) (rest := []) ⟨hx, hb, hml, hown, hts⟩ (kX11_number l D cy h0 a0 r25.2 (p2 + (2 : Int32)) (0 : Int32) (16 : Int32) r28 hr28 H.size) (cwV 3 hts gX11_seasonOrder_X11_number rfl rfl rfl (by decide +kernel) ⟨Nat.le_of_ble_eq_true rfl, Nat.le_of_ble_eq_true rfl⟩) hK hN hP hD [0] rfl rfl (ci := 11) (q0 := 0) rfl rfl rfl rfl hl.1 rfl (Nat.le_of_ble_eq_true rfl) dX11_seasonOrder_168 ⟨Nat.le_refl 0, Nat.le_refl 0⟩) hP hD hS hA [0] ⟨rfl, rfl, rfl, rfl⟩ (fun b29 H locs hP hD hS => ?_)
      refine lv_if_eq (tgt := 178) hx hb dX11_seasonOrder_171 (by decide) (fun c30 => ?_) (fun c30 => ?_)
      · replace h := (if_pos c30).symm.trans h
        refine lv_iconst (v := 0) hx hb dX11_seasonOrder_178 (by decide) ?_
        exact hret 179 H locs ls ((0 : Int32), r28.2) (Option.some.inj h) hP hD hS (show isb (0 : Int32) = true by decide) dX11_seasonOrder_179
      · replace h := (if_neg c30).symm.trans h
        refine lv_iconst (v := 1) hx hb dX11_seasonOrder_174 (by decide) ?_
        refine lv_goto (tgt := 179) hx hb dX11_seasonOrder_175 (by decide) ?_
        exact hret 179 H locs ls ((1 : Int32), r28.2) (Option.some.inj h) hP hD hS (show isb (1 : Int32) = true by decide) dX11_seasonOrder_179
  replace h := (if_neg c24).symm.trans h
  by_cases c31 : p1 = (21 : Int32)
  · replace h := (if_pos c31).symm.trans h
    refine lv_tableIn (tgt := 180) hx hb dX11_seasonOrder_1 (by rw [c31]; decide) (by rw [c31]; decide) (by rw [c31]; rfl) (by decide) ?_
    refine lv_aload_n hx hb dX11_seasonOrder_180 rfl (lv_at hl 0 rfl) ?_
    refine lv_iload_n hx hb dX11_seasonOrder_181 rfl (lv_at hl 2 rfl) ?_
    refine lv_iconst (v := 1) hx hb dX11_seasonOrder_182 (by decide) ?_
    refine lv_iadd hx hb dX11_seasonOrder_183 ?_
    refine lv_iconst (v := 0) hx hb dX11_seasonOrder_184 (by decide) ?_
    refine lv_bipush (v := 59) hx hb dX11_seasonOrder_185 (by decide) ?_
    obtain ⟨r32, hr32, h⟩ := bd_elim h
    refine ca_z (w' := [WX11 cy h0 a0 r32.2]) (rn_V (As := [.int (p2 + (1 : Int32)), .int (0 : Int32), .int (59 : Int32)]) (rest := []) ⟨hx, hb, hml, hown, hts⟩ (kX11_number l D cy h0 a0 s0 (p2 + (1 : Int32)) (0 : Int32) (59 : Int32) r32 hr32 H.size) (cwV 3 hts gX11_seasonOrder_X11_number rfl rfl rfl (by decide +kernel) ⟨Nat.le_of_ble_eq_true rfl, Nat.le_of_ble_eq_true rfl⟩) hK hN hP hD [0] rfl rfl (ci := 11) (q0 := 0) rfl rfl rfl rfl hl.1 rfl (Nat.le_of_ble_eq_true rfl) dX11_seasonOrder_187 ⟨Nat.le_refl 0, Nat.le_refl 0⟩) hP hD hS hA [0] ⟨rfl, rfl, rfl, rfl⟩ (fun b33 H locs hP hD hS => ?_)
    exact hret 190 H locs ls (r32.1, r32.2) (Option.some.inj h) hP hD hS b33 dX11_seasonOrder_190
  replace h := (if_neg c31).symm.trans h
  by_cases c34 : p1 = (23 : Int32)
  · replace h := (if_pos c34).symm.trans h
    refine lv_tableIn (tgt := 191) hx hb dX11_seasonOrder_1 (by rw [c34]; decide) (by rw [c34]; decide) (by rw [c34]; rfl) (by decide) ?_
    refine lv_aload_n hx hb dX11_seasonOrder_191 rfl (lv_at hl 0 rfl) ?_
    refine lv_iload_n hx hb dX11_seasonOrder_192 rfl (lv_at hl 2 rfl) ?_
    obtain ⟨r35, hr35, h⟩ := bd_elim h
    refine ca_z (w' := [WX11 cy h0 a0 r35.2]) (rn_V2 (As := [.int p2]) (rest := []) ⟨hx, hb, hml, hown, hts⟩ (kX11_test S l D cy h0 a0 s0 p2 r35 hr35 H.size) (cwV 1 hts gX11_seasonOrder_X11_test rfl rfl rfl (by decide +kernel) ⟨Nat.le_of_ble_eq_true rfl, Nat.le_of_ble_eq_true rfl⟩) hK hN hX hP hD hS hA [0] rfl rfl (ci := 11) (q0 := 0) rfl rfl rfl rfl hl.1 rfl (Nat.le_of_ble_eq_true rfl) dX11_seasonOrder_193 ⟨Nat.le_refl 0, Nat.le_refl 0⟩) hP hD hS hA [0] ⟨rfl, rfl, rfl, rfl⟩ (fun b36 H locs hP hD hS => ?_)
    exact hret 196 H locs ls (r35.1, r35.2) (Option.some.inj h) hP hD hS b36 dX11_seasonOrder_196
  replace h := (if_neg c34).symm.trans h
  by_cases c37 : p1 = (24 : Int32)
  · replace h := (if_pos c37).symm.trans h
    refine lv_tableIn (tgt := 197) hx hb dX11_seasonOrder_1 (by rw [c37]; decide) (by rw [c37]; decide) (by rw [c37]; rfl) (by decide) ?_
    refine lv_aload_n hx hb dX11_seasonOrder_197 rfl (lv_at hl 0 rfl) ?_
    refine lv_iload_n hx hb dX11_seasonOrder_198 rfl (lv_at hl 2 rfl) ?_
    refine lv_iconst (v := 1) hx hb dX11_seasonOrder_199 (by decide) ?_
    refine lv_iadd hx hb dX11_seasonOrder_200 ?_
    refine lv_iconst (v := 1) hx hb dX11_seasonOrder_201 (by decide) ?_
    refine lv_bipush (v := 99) hx hb dX11_seasonOrder_202 (by decide) ?_
    obtain ⟨r38, hr38, h⟩ := bd_elim h
    refine ca_z (w' := [WX11 cy h0 a0 r38.2]) (rn_V (As := [.int (p2 + (1 : Int32)), .int (1 : Int32), .int (99 : Int32)]) (rest := []) ⟨hx, hb, hml, hown, hts⟩ (kX11_number l D cy h0 a0 s0 (p2 + (1 : Int32)) (1 : Int32) (99 : Int32) r38 hr38 H.size) (cwV 3 hts gX11_seasonOrder_X11_number rfl rfl rfl (by decide +kernel) ⟨Nat.le_of_ble_eq_true rfl, Nat.le_of_ble_eq_true rfl⟩) hK hN hP hD [0] rfl rfl (ci := 11) (q0 := 0) rfl rfl rfl rfl hl.1 rfl (Nat.le_of_ble_eq_true rfl) dX11_seasonOrder_204 ⟨Nat.le_refl 0, Nat.le_refl 0⟩) hP hD hS hA [0] ⟨rfl, rfl, rfl, rfl⟩ (fun b39 H locs hP hD hS => ?_)
    exact hret 207 H locs ls (r38.1, r38.2) (Option.some.inj h) hP hD hS b39 dX11_seasonOrder_207
  replace h := (if_neg c37).symm.trans h
  have ic1 : p1.toInt ≠ 14 := fun z => c1 (Int32.toInt_inj.mp (z.trans (by decide)))
  have ic4 : p1.toInt ≠ 18 := fun z => c4 (Int32.toInt_inj.mp (z.trans (by decide)))
  have ic14 : p1.toInt ≠ 19 := fun z => c14 (Int32.toInt_inj.mp (z.trans (by decide)))
  have ic24 : p1.toInt ≠ 20 := fun z => c24 (Int32.toInt_inj.mp (z.trans (by decide)))
  have ic31 : p1.toInt ≠ 21 := fun z => c31 (Int32.toInt_inj.mp (z.trans (by decide)))
  have ic34 : p1.toInt ≠ 23 := fun z => c34 (Int32.toInt_inj.mp (z.trans (by decide)))
  have ic37 : p1.toInt ≠ 24 := fun z => c37 (Int32.toInt_inj.mp (z.trans (by decide)))
  have hsw : p1.toInt < 14 ∨ 24 < p1.toInt ∨ p1.toInt = 15 ∨ p1.toInt = 16 ∨ p1.toInt = 17 ∨ p1.toInt = 22 := by omega
  refine lv_tdf (tgt := 208) hx hb dX11_seasonOrder_1 ?_ (by decide) ?_
  · rcases hsw with z | z | z | z | z | z
    · exact Or.inl z
    · exact Or.inr (Or.inl z)
    · exact Or.inr (Or.inr (by rw [z]; rfl))
    · exact Or.inr (Or.inr (by rw [z]; rfl))
    · exact Or.inr (Or.inr (by rw [z]; rfl))
    · exact Or.inr (Or.inr (by rw [z]; rfl))
  refine lv_iconst (v := 1) hx hb dX11_seasonOrder_208 (by decide) ?_
  exact hret 209 H locs ls ((1 : Int32), s0) (Option.some.inj h) hP hD hS (show isb (1 : Int32) = true by decide) dX11_seasonOrder_209
