set_option maxRecDepth 20000 in
theorem ggX8_mustBeLetters_X8_weatherAt : GoodIn wsX8_mustBeLetters wsX8_weatherAt := goodIn_r _ [8, 9, 10, 17, 18, 19, 20, 21, 22, 23, 24, 25, 26, 27, 28, 29, 30] (by decide +kernel) (by decide +kernel)
set_option maxRecDepth 20000 in
theorem gX8_mustBeLetters_X8_weatherAt : GoodIn wsX8_mustBeLetters (wsV RX8 112 RX8 yX8_weatherAt wsX8_weatherAt) := goodIn_app (goodIn_of _ (by decide +kernel)) ggX8_mustBeLetters_X8_weatherAt
set_option maxRecDepth 20000 in
theorem ggX8_mustBeLetters_X8_fail : GoodIn wsX8_mustBeLetters wsX8_fail := goodIn_r _ [14, 15, 3, 16, 17, 18, 19, 20, 21, 22, 23, 24, 25, 26, 27, 28, 29, 30] (by decide +kernel) (by decide +kernel)
set_option maxRecDepth 20000 in
theorem gX8_mustBeLetters_X8_fail : GoodIn wsX8_mustBeLetters (wsV RX8 88 RX8 yX8_fail wsX8_fail) := goodIn_app (goodIn_of _ (by decide +kernel)) ggX8_mustBeLetters_X8_fail
theorem dX8_mustBeLetters_0 : decode cX8_mustBeLetters 0 = .ok (.aload_n 0, 1) := by decide +kernel
theorem dX8_mustBeLetters_1 : decode cX8_mustBeLetters 1 = .ok (.getfield 32, 3) := by decide +kernel
theorem dX8_mustBeLetters_4 : decode cX8_mustBeLetters 4 = .ok (.iconst 1, 1) := by decide +kernel
theorem dX8_mustBeLetters_5 : decode cX8_mustBeLetters 5 = .ok (.if_icmp .ne 21, 3) := by decide +kernel
theorem dX8_mustBeLetters_8 : decode cX8_mustBeLetters 8 = .ok (.aload_n 0, 1) := by decide +kernel
theorem dX8_mustBeLetters_9 : decode cX8_mustBeLetters 9 = .ok (.getfield 29, 3) := by decide +kernel
theorem dX8_mustBeLetters_12 : decode cX8_mustBeLetters 12 = .ok (.aload_n 0, 1) := by decide +kernel
theorem dX8_mustBeLetters_13 : decode cX8_mustBeLetters 13 = .ok (.getfield 26, 3) := by decide +kernel
theorem dX8_mustBeLetters_16 : decode cX8_mustBeLetters 16 = .ok (.isub, 1) := by decide +kernel
theorem dX8_mustBeLetters_17 : decode cX8_mustBeLetters 17 = .ok (.bipush 60, 2) := by decide +kernel
theorem dX8_mustBeLetters_19 : decode cX8_mustBeLetters 19 = .ok (.if_icmp .gt 7, 3) := by decide +kernel
theorem dX8_mustBeLetters_22 : decode cX8_mustBeLetters 22 = .ok (.iconst 1, 1) := by decide +kernel
theorem dX8_mustBeLetters_23 : decode cX8_mustBeLetters 23 = .ok (.goto 4, 3) := by decide +kernel
theorem dX8_mustBeLetters_26 : decode cX8_mustBeLetters 26 = .ok (.iconst 0, 1) := by decide +kernel
theorem dX8_mustBeLetters_27 : decode cX8_mustBeLetters 27 = .ok (.istore_n 1, 1) := by decide +kernel
theorem dX8_mustBeLetters_28 : decode cX8_mustBeLetters 28 = .ok (.aload_n 0, 1) := by decide +kernel
theorem dX8_mustBeLetters_29 : decode cX8_mustBeLetters 29 = .ok (.getfield 26, 3) := by decide +kernel
theorem dX8_mustBeLetters_32 : decode cX8_mustBeLetters 32 = .ok (.istore_n 2, 1) := by decide +kernel
theorem dX8_mustBeLetters_33 : decode cX8_mustBeLetters 33 = .ok (.iload_n 1, 1) := by decide +kernel
theorem dX8_mustBeLetters_34 : decode cX8_mustBeLetters 34 = .ok (.ifCond .eq 32, 3) := by decide +kernel
theorem dX8_mustBeLetters_37 : decode cX8_mustBeLetters 37 = .ok (.iload_n 2, 1) := by decide +kernel
theorem dX8_mustBeLetters_38 : decode cX8_mustBeLetters 38 = .ok (.aload_n 0, 1) := by decide +kernel
theorem dX8_mustBeLetters_39 : decode cX8_mustBeLetters 39 = .ok (.getfield 29, 3) := by decide +kernel
theorem dX8_mustBeLetters_42 : decode cX8_mustBeLetters 42 = .ok (.if_icmp .ge 24, 3) := by decide +kernel
theorem dX8_mustBeLetters_45 : decode cX8_mustBeLetters 45 = .ok (.aload_n 0, 1) := by decide +kernel
theorem dX8_mustBeLetters_46 : decode cX8_mustBeLetters 46 = .ok (.iload_n 2, 1) := by decide +kernel
theorem dX8_mustBeLetters_47 : decode cX8_mustBeLetters 47 = .ok (.invokevirtual 112, 3) := by decide +kernel
theorem dX8_mustBeLetters_50 : decode cX8_mustBeLetters 50 = .ok (.iconst (-1), 1) := by decide +kernel
theorem dX8_mustBeLetters_51 : decode cX8_mustBeLetters 51 = .ok (.if_icmp .eq 7, 3) := by decide +kernel
theorem dX8_mustBeLetters_54 : decode cX8_mustBeLetters 54 = .ok (.iconst 1, 1) := by decide +kernel
theorem dX8_mustBeLetters_55 : decode cX8_mustBeLetters 55 = .ok (.goto 4, 3) := by decide +kernel
theorem dX8_mustBeLetters_58 : decode cX8_mustBeLetters 58 = .ok (.iconst 0, 1) := by decide +kernel
theorem dX8_mustBeLetters_59 : decode cX8_mustBeLetters 59 = .ok (.istore_n 1, 1) := by decide +kernel
theorem dX8_mustBeLetters_60 : decode cX8_mustBeLetters 60 = .ok (.iinc 2 1, 3) := by decide +kernel
theorem dX8_mustBeLetters_63 : decode cX8_mustBeLetters 63 = .ok (.goto (-30), 3) := by decide +kernel
theorem dX8_mustBeLetters_66 : decode cX8_mustBeLetters 66 = .ok (.iload_n 1, 1) := by decide +kernel
theorem dX8_mustBeLetters_67 : decode cX8_mustBeLetters 67 = .ok (.ifCond .ne 11, 3) := by decide +kernel
theorem dX8_mustBeLetters_70 : decode cX8_mustBeLetters 70 = .ok (.aload_n 0, 1) := by decide +kernel
theorem dX8_mustBeLetters_71 : decode cX8_mustBeLetters 71 = .ok (.iconst 2, 1) := by decide +kernel
theorem dX8_mustBeLetters_72 : decode cX8_mustBeLetters 72 = .ok (.invokevirtual 88, 3) := by decide +kernel
theorem dX8_mustBeLetters_75 : decode cX8_mustBeLetters 75 = .ok (.ifCond .eq 7, 3) := by decide +kernel
theorem dX8_mustBeLetters_78 : decode cX8_mustBeLetters 78 = .ok (.iconst 1, 1) := by decide +kernel
theorem dX8_mustBeLetters_79 : decode cX8_mustBeLetters 79 = .ok (.goto 4, 3) := by decide +kernel
theorem dX8_mustBeLetters_82 : decode cX8_mustBeLetters 82 = .ok (.iconst 0, 1) := by decide +kernel
theorem dX8_mustBeLetters_83 : decode cX8_mustBeLetters 83 = .ok (.ireturn, 1) := by decide +kernel
abbrev rmX8_mustBeLetters : Room := { frames := 1, cells := 0, slots := 0, locals := 22 }
set_option maxHeartbeats 4000000 in
set_option maxRecDepth 100000 in
theorem kX8_mustBeLetters (l : Launch) (D : va_G) (cy : Nat → ClassId) (h0 : Nat) (a0 : Nat → Nat) (s0 : Rc) (res : Int32 × Rc) (h : fX8_mustBeLetters s0 = some res) : CZ l D cy yX8_mustBeLetters wsX8_mustBeLetters rmX8_mustBeLetters [.ref h0] (flat [WX8 cy h0 a0 s0]) (flat [WX8 cy h0 a0 res.2]) res.1 := by
  refine CZ.of (cc := cX8_mustBeLetters) (maxL := 3) (by decide) rfl (Nat.le_of_ble_eq_true rfl) ?_
  intro p e s m args below meth c A QQ ls E hr
  obtain ⟨hx, hb, hml, hown, hts, hK, hN, hP, hD, hA, hl⟩ := E
  have hret : ∀ (pc : Nat) (H : Heap) (locs : List Loc) (ls : Array Slot) (u : Int32 × Rc), u = res → va_P D vwCl (flat [WX8 cy h0 a0 u.2]) H → va_D A (flat [WX8 cy h0 a0 u.2]) → va_S A s.heap H locs → isb u.1 = true → decode cX8_mustBeLetters pc = .ok (.ireturn, 1) → W p l e rmX8_mustBeLetters s m args below meth c H locs 0 0 QQ (F0 m pc ls [.int u.1]) := by
    intro pc H locs ls u hu hP hD hS hz hd; subst hu; exact hr pc H locs ls _ rfl hP hD hS hz hd
  clear hr
  have hl : lv_has ls 3 [(0, .ref h0)] := hl
  have hinX8 : ∀ w ∈ wsX80, w ∈ wsX8_mustBeLetters := fun _ h => List.mem_cons_of_mem _ (List.mem_append_right _ h)
  unfold fX8_mustBeLetters at h
  suffices key : ∀ (H : Heap) (locs : List Loc), va_P D vwCl (flat [WX8 cy h0 a0 s0]) H → va_S A s.heap H locs → W p l e rmX8_mustBeLetters s m args below meth c H locs 0 0 QQ (F0 m 0 ls []) from key _ _ hP va_S.rf
  clear hP
  intro H locs hP hS
  have J66 : ∀ (y66_1 : Int32) (H : Heap) (locs : List Loc) (ls : Array Slot), lv_has ls 3 [(0, .ref h0), (1, .int y66_1)] → va_P D vwCl (flat [WX8 cy h0 a0 s0]) H → va_D A (flat [WX8 cy h0 a0 s0]) → va_S A s.heap H locs → fX8_mustBeLetters_J66 s0 y66_1 = some res → W p l e rmX8_mustBeLetters s m args below meth c H locs 0 0 QQ (F0 m 66 ls []) := by
    intro y66_1 H locs ls hl hP hD hS h
    unfold fX8_mustBeLetters_J66 at h
    refine lv_iload_n hx hb dX8_mustBeLetters_66 rfl (lv_at hl 1 rfl) ?_
    refine lv_if_ne (tgt := 78) hx hb dX8_mustBeLetters_67 (by decide) (fun c1 => ?_) (fun c1 => ?_)
    · replace h := (if_neg c1).symm.trans h
      refine lv_iconst (v := 1) hx hb dX8_mustBeLetters_78 (by decide) ?_
      refine lv_goto (tgt := 83) hx hb dX8_mustBeLetters_79 (by decide) ?_
      exact hret 83 H locs ls ((1 : Int32), s0) (Option.some.inj h) hP hD hS (show isb (1 : Int32) = true by decide) dX8_mustBeLetters_83
    · replace h := (if_pos c1).symm.trans h
      refine lv_aload_n hx hb dX8_mustBeLetters_70 rfl (lv_at hl 0 rfl) ?_
      refine lv_iconst (v := 2) hx hb dX8_mustBeLetters_71 (by decide) ?_
      obtain ⟨r2, hr2, h⟩ := lt_elim h
      refine ca_z (w' := [WX8 cy h0 a0 r2.2]) (rn_V (As := [.int (2 : Int32)]) (rest := []) ⟨hx, hb, hml, hown, hts⟩ (kX8_fail l D cy h0 a0 s0 (2 : Int32) r2 hr2.symm H.size) (cwV 1 hts gX8_mustBeLetters_X8_fail rfl rfl rfl (by decide +kernel) ⟨Nat.le_of_ble_eq_true rfl, Nat.le_of_ble_eq_true rfl⟩) hK hN hP hD [0] rfl rfl (ci := 8) (q0 := 0) rfl rfl rfl rfl hl.1 rfl (Nat.le_of_ble_eq_true rfl) dX8_mustBeLetters_72 ⟨Nat.le_refl 0, Nat.le_refl 0⟩) hP hD hS hA [0] ⟨rfl, rfl, rfl, rfl⟩ (fun b3 H locs hP hD hS => ?_)
      refine lv_if_eq (tgt := 82) hx hb dX8_mustBeLetters_75 (by decide) (fun c4 => ?_) (fun c4 => ?_)
      · replace h := (if_pos c4).symm.trans h
        refine lv_iconst (v := 0) hx hb dX8_mustBeLetters_82 (by decide) ?_
        exact hret 83 H locs ls ((0 : Int32), r2.2) (Option.some.inj h) hP hD hS (show isb (0 : Int32) = true by decide) dX8_mustBeLetters_83
      · replace h := (if_neg c4).symm.trans h
        refine lv_iconst (v := 1) hx hb dX8_mustBeLetters_78 (by decide) ?_
        refine lv_goto (tgt := 83) hx hb dX8_mustBeLetters_79 (by decide) ?_
        exact hret 83 H locs ls ((1 : Int32), r2.2) (Option.some.inj h) hP hD hS (show isb (1 : Int32) = true by decide) dX8_mustBeLetters_83
  have J27 : ∀ (z27_0 : Int32) (H : Heap) (locs : List Loc) (ls : Array Slot), lv_has ls 3 [(0, .ref h0)] → va_P D vwCl (flat [WX8 cy h0 a0 s0]) H → va_D A (flat [WX8 cy h0 a0 s0]) → va_S A s.heap H locs → fX8_mustBeLetters_J27 s0 z27_0 = some res → W p l e rmX8_mustBeLetters s m args below meth c H locs 0 0 QQ (F0 m 27 ls [.int z27_0]) := by
    intro z27_0 H locs ls hl hP hD hS h
    unfold fX8_mustBeLetters_J27 at h
    refine lv_istore_n (lv' := [(1, .int z27_0), (0, .ref h0)]) hx hb dX8_mustBeLetters_27 rfl hl (by decide) rfl (fun ls hl => ?_)
    refine lv_aload_n hx hb dX8_mustBeLetters_28 rfl (lv_at hl 1 rfl) ?_
    refine va_get (D := D) (ci := 8) (v := .int (gi s0 4)) (C := RX8) (T := TX8) (N := 14) hx hb hts hinX8 hown hK hP 0 rfl rfl 4 (by decide) (hts (.fieldLink RX8 26 "KneeBench$Tokens" "place" "I") (List.mem_of_getElem? (i := 3) rfl)) (fun _ h9 => h9) rfl dX8_mustBeLetters_29 ?_
    refine lv_topi (fun x5 ex5 => ?_)
    replace h := lt_use h x5 ex5
    refine lv_istore_n (lv' := [(2, .int x5), (1, .int z27_0), (0, .ref h0)]) hx hb dX8_mustBeLetters_32 rfl hl (by decide) rfl (fun ls hl => ?_)
    have L33 : ∀ (n : Nat) (q33 : Int32 × Int32) (o : Int32), loopO (fX8_mustBeLetters_L33 s0) n q33 = some o → ∀ (H : Heap) (locs : List Loc) (ls : Array Slot), lv_has ls 3 [(0, .ref h0), (1, .int q33.1), (2, .int q33.2)] → va_P D vwCl (flat [WX8 cy h0 a0 s0]) H → va_D A (flat [WX8 cy h0 a0 s0]) → va_S A s.heap H locs → ∀ (kk66 : ∀ (H : Heap) (locs : List Loc) (ls : Array Slot), lv_has ls 3 [(0, .ref h0), (1, .int o)] → va_P D vwCl (flat [WX8 cy h0 a0 s0]) H → va_D A (flat [WX8 cy h0 a0 s0]) → va_S A s.heap H locs → W p l e rmX8_mustBeLetters s m args below meth c H locs 0 0 QQ (F0 m 66 ls [])), W p l e rmX8_mustBeLetters s m args below meth c H locs 0 0 QQ (F0 m 33 ls []) := by
      intro n
      induction n with
      | zero => intro q33 o h; exact absurd h (by rw [loopO_zero]; intro z; cases z)
      | succ n ih =>
        intro q33 o h H locs ls hl hP hD hS kk66
        obtain ⟨w, h, hgo, hst⟩ := loopO_elim h
        unfold fX8_mustBeLetters_L33 at h
        refine lv_iload_n hx hb dX8_mustBeLetters_33 rfl (lv_at hl 1 rfl) ?_
        refine lv_if_eq (tgt := 66) hx hb dX8_mustBeLetters_34 (by decide) (fun c6 => ?_) (fun c6 => ?_)
        · replace h := (if_pos c6).symm.trans h
          have eo := hst _ (Option.some.inj h).symm
          subst eo
          exact kk66 H locs ls (lv_sub hl [0, 1] rfl) hP hD hS
        · replace h := (if_neg c6).symm.trans h
          refine lv_iload_n hx hb dX8_mustBeLetters_37 rfl (lv_at hl 2 rfl) ?_
          refine lv_aload_n hx hb dX8_mustBeLetters_38 rfl (lv_at hl 0 rfl) ?_
          refine va_get (D := D) (ci := 8) (v := .int (gi s0 5)) (C := RX8) (T := TX8) (N := 14) hx hb hts hinX8 hown hK hP 0 rfl rfl 5 (by decide) (hts (.fieldLink RX8 29 "KneeBench$Tokens" "behind" "I") (List.mem_of_getElem? (i := 2) rfl)) (fun _ h9 => h9) rfl dX8_mustBeLetters_39 ?_
          refine lv_icmp_ge (tgt := 66) hx hb dX8_mustBeLetters_42 (by decide) (fun c7 => ?_) (fun c7 => ?_)
          · replace h := (if_pos c7).symm.trans h
            have eo := hst _ (Option.some.inj h).symm
            subst eo
            exact kk66 H locs ls (lv_sub hl [0, 1] rfl) hP hD hS
          · replace h := (if_neg c7).symm.trans h
            refine lv_aload_n hx hb dX8_mustBeLetters_45 rfl (lv_at hl 0 rfl) ?_
            refine lv_iload_n hx hb dX8_mustBeLetters_46 rfl (lv_at hl 2 rfl) ?_
            obtain ⟨r8, hr8, h⟩ := bd_elim h
            refine ca_i (w' := [WX8 cy h0 a0 s0]) (rn_V (As := [.int q33.2]) (rest := []) ⟨hx, hb, hml, hown, hts⟩ (kX8_weatherAt l D cy h0 a0 s0 q33.2 r8 hr8 H.size) (cwV 1 hts gX8_mustBeLetters_X8_weatherAt rfl rfl rfl (by decide +kernel) ⟨Nat.le_of_ble_eq_true rfl, Nat.le_of_ble_eq_true rfl⟩) hK hN hP hD [0] rfl rfl (ci := 8) (q0 := 0) rfl rfl rfl rfl hl.1 rfl (Nat.le_of_ble_eq_true rfl) dX8_mustBeLetters_47 ⟨Nat.le_refl 0, Nat.le_refl 0⟩) hP hD hS hA [0] ⟨rfl, rfl, rfl, rfl⟩ (fun H locs hP hD hS => ?_)
            refine lv_iconst (v := -1) hx hb dX8_mustBeLetters_50 (by decide) ?_
            refine lv_icmp_eq (tgt := 58) hx hb dX8_mustBeLetters_51 (by decide) (fun c9 => ?_) (fun c9 => ?_)
            · replace h := (if_pos c9).symm.trans h
              refine lv_iconst (v := 0) hx hb dX8_mustBeLetters_58 (by decide) ?_
              refine lv_istore_n (lv' := [(1, .int (0 : Int32)), (0, .ref h0), (2, .int q33.2)]) hx hb dX8_mustBeLetters_59 rfl hl (by decide) rfl (fun ls hl => ?_)
              refine lv_iinc (v := (q33.2 + (1 : Int32))) (lv' := [(2, .int (q33.2 + (1 : Int32))), (1, .int (0 : Int32)), (0, .ref h0)]) hx hb dX8_mustBeLetters_60 hl (k := 2) rfl rfl (by decide) rfl (fun ls hl => ?_)
              refine lv_goto (tgt := 33) hx hb dX8_mustBeLetters_63 (by decide) ?_
              exact ih _ o (hgo _ (Option.some.inj h).symm) H locs ls (lv_sub hl [2, 1, 0] rfl) hP hD hS kk66
            · replace h := (if_neg c9).symm.trans h
              refine lv_iconst (v := 1) hx hb dX8_mustBeLetters_54 (by decide) ?_
              refine lv_goto (tgt := 59) hx hb dX8_mustBeLetters_55 (by decide) ?_
              refine lv_istore_n (lv' := [(1, .int (1 : Int32)), (0, .ref h0), (2, .int q33.2)]) hx hb dX8_mustBeLetters_59 rfl hl (by decide) rfl (fun ls hl => ?_)
              refine lv_iinc (v := (q33.2 + (1 : Int32))) (lv' := [(2, .int (q33.2 + (1 : Int32))), (1, .int (1 : Int32)), (0, .ref h0)]) hx hb dX8_mustBeLetters_60 hl (k := 2) rfl rfl (by decide) rfl (fun ls hl => ?_)
              refine lv_goto (tgt := 33) hx hb dX8_mustBeLetters_63 (by decide) ?_
              exact ih _ o (hgo _ (Option.some.inj h).symm) H locs ls (lv_sub hl [2, 1, 0] rfl) hP hD hS kk66
    obtain ⟨o33, ho33, h⟩ := bd_elim h
    obtain ⟨n33, hn33⟩ := loopF_some ho33
    refine L33 n33 _ o33 hn33 H locs ls (lv_sub hl [2, 1, 0] rfl) hP hD hS (fun H locs ls hl hP hD hS => ?_)
    exact J66 o33 H locs ls (lv_sub hl [0, 1] rfl) hP hD hS h
  have J26 : ∀  (H : Heap) (locs : List Loc) (ls : Array Slot), lv_has ls 3 [(0, .ref h0)] → va_P D vwCl (flat [WX8 cy h0 a0 s0]) H → va_D A (flat [WX8 cy h0 a0 s0]) → va_S A s.heap H locs → fX8_mustBeLetters_J26 s0 = some res → W p l e rmX8_mustBeLetters s m args below meth c H locs 0 0 QQ (F0 m 26 ls []) := by
    intro  H locs ls hl hP hD hS h
    unfold fX8_mustBeLetters_J26 at h
    refine lv_iconst (v := 0) hx hb dX8_mustBeLetters_26 (by decide) ?_
    exact J27 (0 : Int32) H locs ls (lv_sub hl [0] rfl) hP hD hS h
  refine lv_aload_n hx hb dX8_mustBeLetters_0 rfl (lv_at hl 0 rfl) ?_
  refine va_get (D := D) (ci := 8) (v := .int (gi s0 6)) (C := RX8) (T := TX8) (N := 14) hx hb hts hinX8 hown hK hP 0 rfl rfl 6 (by decide) (hts (.fieldLink RX8 32 "KneeBench$Tokens" "kind" "I") (List.mem_of_getElem? (i := 1) rfl)) (fun _ h9 => h9) rfl dX8_mustBeLetters_1 ?_
  refine lv_iconst (v := 1) hx hb dX8_mustBeLetters_4 (by decide) ?_
  refine lv_icmp_ne (tgt := 26) hx hb dX8_mustBeLetters_5 (by decide) (fun c10 => ?_) (fun c10 => ?_)
  · replace h := (if_neg c10).symm.trans h
    exact J26  H locs ls (lv_sub hl [0] rfl) hP hD hS h
  · replace h := (if_pos c10).symm.trans h
    refine lv_aload_n hx hb dX8_mustBeLetters_8 rfl (lv_at hl 0 rfl) ?_
    refine va_get (D := D) (ci := 8) (v := .int (gi s0 5)) (C := RX8) (T := TX8) (N := 14) hx hb hts hinX8 hown hK hP 0 rfl rfl 5 (by decide) (hts (.fieldLink RX8 29 "KneeBench$Tokens" "behind" "I") (List.mem_of_getElem? (i := 2) rfl)) (fun _ h9 => h9) rfl dX8_mustBeLetters_9 ?_
    refine lv_aload_n hx hb dX8_mustBeLetters_12 rfl (lv_at hl 0 rfl) ?_
    refine va_get (D := D) (ci := 8) (v := .int (gi s0 4)) (C := RX8) (T := TX8) (N := 14) hx hb hts hinX8 hown hK hP 0 rfl rfl 4 (by decide) (hts (.fieldLink RX8 26 "KneeBench$Tokens" "place" "I") (List.mem_of_getElem? (i := 3) rfl)) (fun _ h9 => h9) rfl dX8_mustBeLetters_13 ?_
    refine lv_isub hx hb dX8_mustBeLetters_16 ?_
    refine lv_bipush (v := 60) hx hb dX8_mustBeLetters_17 (by decide) ?_
    refine lv_icmp_gt (tgt := 26) hx hb dX8_mustBeLetters_19 (by decide) (fun c11 => ?_) (fun c11 => ?_)
    · replace h := (if_pos c11).symm.trans h
      exact J26  H locs ls (lv_sub hl [0] rfl) hP hD hS h
    · replace h := (if_neg c11).symm.trans h
      refine lv_iconst (v := 1) hx hb dX8_mustBeLetters_22 (by decide) ?_
      refine lv_goto (tgt := 27) hx hb dX8_mustBeLetters_23 (by decide) ?_
      exact J27 (1 : Int32) H locs ls (lv_sub hl [0] rfl) hP hD hS h
set_option maxRecDepth 20000 in
theorem ggX1_readWeather_X8_advance : GoodIn wsX1_readWeather wsX8_advance := goodIn_r _ [7, 8, 9, 10, 11, 12, 13, 14, 15, 16, 17, 18, 6, 19, 20, 21, 22, 23, 24, 25, 26, 27, 28, 29, 30, 31, 32, 33, 34, 35, 36, 37, 78, 79, 80, 81, 82, 83, 84, 85, 86, 87, 88, 89, 90, 91] (by decide +kernel) (by decide +kernel)
set_option maxRecDepth 20000 in
theorem gX1_readWeather_X8_advance : GoodIn wsX1_readWeather (wsV RX1 81 RX8 yX8_advance wsX8_advance) := goodIn_app (goodIn_of _ (by decide +kernel)) ggX1_readWeather_X8_advance
set_option maxRecDepth 20000 in
theorem ggX1_readWeather_X8_mustBeLetters : GoodIn wsX1_readWeather wsX8_mustBeLetters := goodIn_r _ [41, 12, 8, 9, 42, 43, 44, 6, 45, 10, 11, 32, 33, 34, 35, 36, 37, 78, 79, 80, 81, 82, 83, 84, 85, 86, 87, 88, 89, 90, 91] (by decide +kernel) (by decide +kernel)
set_option maxRecDepth 20000 in
theorem gX1_readWeather_X8_mustBeLetters : GoodIn wsX1_readWeather (wsV RX1 143 RX8 yX8_mustBeLetters wsX8_mustBeLetters) := goodIn_app (goodIn_of _ (by decide +kernel)) ggX1_readWeather_X8_mustBeLetters
set_option maxRecDepth 20000 in
theorem ggX1_readWeather_X8_fail : GoodIn wsX1_readWeather wsX8_fail := goodIn_r _ [35, 36, 9, 37, 78, 79, 80, 81, 82, 83, 84, 85, 86, 87, 88, 89, 90, 91] (by decide +kernel) (by decide +kernel)
set_option maxRecDepth 20000 in
theorem gX1_readWeather_X8_fail : GoodIn wsX1_readWeather (wsV RX1 75 RX8 yX8_fail wsX8_fail) := goodIn_app (goodIn_of _ (by decide +kernel)) ggX1_readWeather_X8_fail
set_option maxRecDepth 20000 in
theorem ggX1_readWeather_X8_weatherAt : GoodIn wsX1_readWeather wsX8_weatherAt := goodIn_r _ [45, 10, 11, 78, 79, 80, 81, 82, 83, 84, 85, 86, 87, 88, 89, 90, 91] (by decide +kernel) (by decide +kernel)
set_option maxRecDepth 20000 in
theorem gX1_readWeather_X8_weatherAt : GoodIn wsX1_readWeather (wsV RX1 155 RX8 yX8_weatherAt wsX8_weatherAt) := goodIn_app (goodIn_of _ (by decide +kernel)) ggX1_readWeather_X8_weatherAt
set_option maxRecDepth 20000 in
theorem ggX1_readWeather_X0_addDay : GoodIn wsX1_readWeather wsX0_addDay := goodIn_r _ [52, 53, 54, 55, 56, 57, 58, 51, 59, 64, 65, 66, 67, 68, 69, 70, 71, 72, 73, 74, 75, 76, 77] (by decide +kernel) (by decide +kernel)
set_option maxRecDepth 20000 in
theorem gX1_readWeather_X0_addDay : GoodIn wsX1_readWeather (wsV RX1 159 RX0 yX0_addDay wsX0_addDay) := goodIn_app (goodIn_of _ (by decide +kernel)) ggX1_readWeather_X0_addDay
theorem dX1_readWeather_0 : decode cX1_readWeather 0 = .ok (.aload_n 0, 1) := by decide +kernel
theorem dX1_readWeather_1 : decode cX1_readWeather 1 = .ok (.getfield 19, 3) := by decide +kernel
theorem dX1_readWeather_4 : decode cX1_readWeather 4 = .ok (.invokevirtual 81, 3) := by decide +kernel
theorem dX1_readWeather_7 : decode cX1_readWeather 7 = .ok (.ifCond .eq 13, 3) := by decide +kernel
theorem dX1_readWeather_10 : decode cX1_readWeather 10 = .ok (.aload_n 0, 1) := by decide +kernel
theorem dX1_readWeather_11 : decode cX1_readWeather 11 = .ok (.getfield 19, 3) := by decide +kernel
theorem dX1_readWeather_14 : decode cX1_readWeather 14 = .ok (.invokevirtual 143, 3) := by decide +kernel
theorem dX1_readWeather_17 : decode cX1_readWeather 17 = .ok (.ifCond .ne 5, 3) := by decide +kernel
theorem dX1_readWeather_20 : decode cX1_readWeather 20 = .ok (.iconst 0, 1) := by decide +kernel
theorem dX1_readWeather_21 : decode cX1_readWeather 21 = .ok (.ireturn, 1) := by decide +kernel
theorem dX1_readWeather_22 : decode cX1_readWeather 22 = .ok (.aload_n 0, 1) := by decide +kernel
theorem dX1_readWeather_23 : decode cX1_readWeather 23 = .ok (.getfield 23, 3) := by decide +kernel
theorem dX1_readWeather_26 : decode cX1_readWeather 26 = .ok (.getfield 146, 3) := by decide +kernel
theorem dX1_readWeather_29 : decode cX1_readWeather 29 = .ok (.aload_n 0, 1) := by decide +kernel
theorem dX1_readWeather_30 : decode cX1_readWeather 30 = .ok (.getfield 19, 3) := by decide +kernel
theorem dX1_readWeather_33 : decode cX1_readWeather 33 = .ok (.getfield 149, 3) := by decide +kernel
theorem dX1_readWeather_36 : decode cX1_readWeather 36 = .ok (.iadd, 1) := by decide +kernel
theorem dX1_readWeather_37 : decode cX1_readWeather 37 = .ok (.aload_n 0, 1) := by decide +kernel
theorem dX1_readWeather_38 : decode cX1_readWeather 38 = .ok (.getfield 19, 3) := by decide +kernel
theorem dX1_readWeather_41 : decode cX1_readWeather 41 = .ok (.getfield 152, 3) := by decide +kernel
theorem dX1_readWeather_44 : decode cX1_readWeather 44 = .ok (.isub, 1) := by decide +kernel
theorem dX1_readWeather_45 : decode cX1_readWeather 45 = .ok (.bipush 60, 2) := by decide +kernel
theorem dX1_readWeather_47 : decode cX1_readWeather 47 = .ok (.if_icmp .le 13, 3) := by decide +kernel
theorem dX1_readWeather_50 : decode cX1_readWeather 50 = .ok (.aload_n 0, 1) := by decide +kernel
theorem dX1_readWeather_51 : decode cX1_readWeather 51 = .ok (.getfield 19, 3) := by decide +kernel
theorem dX1_readWeather_54 : decode cX1_readWeather 54 = .ok (.bipush 6, 2) := by decide +kernel
theorem dX1_readWeather_56 : decode cX1_readWeather 56 = .ok (.invokevirtual 75, 3) := by decide +kernel
theorem dX1_readWeather_59 : decode cX1_readWeather 59 = .ok (.ireturn, 1) := by decide +kernel
theorem dX1_readWeather_60 : decode cX1_readWeather 60 = .ok (.aload_n 0, 1) := by decide +kernel
theorem dX1_readWeather_61 : decode cX1_readWeather 61 = .ok (.getfield 19, 3) := by decide +kernel
theorem dX1_readWeather_64 : decode cX1_readWeather 64 = .ok (.getfield 152, 3) := by decide +kernel
theorem dX1_readWeather_67 : decode cX1_readWeather 67 = .ok (.istore_n 1, 1) := by decide +kernel
theorem dX1_readWeather_68 : decode cX1_readWeather 68 = .ok (.iload_n 1, 1) := by decide +kernel
theorem dX1_readWeather_69 : decode cX1_readWeather 69 = .ok (.aload_n 0, 1) := by decide +kernel
theorem dX1_readWeather_70 : decode cX1_readWeather 70 = .ok (.getfield 19, 3) := by decide +kernel
theorem dX1_readWeather_73 : decode cX1_readWeather 73 = .ok (.getfield 149, 3) := by decide +kernel
theorem dX1_readWeather_76 : decode cX1_readWeather 76 = .ok (.if_icmp .ge 24, 3) := by decide +kernel
theorem dX1_readWeather_79 : decode cX1_readWeather 79 = .ok (.aload_n 0, 1) := by decide +kernel
theorem dX1_readWeather_80 : decode cX1_readWeather 80 = .ok (.getfield 23, 3) := by decide +kernel
theorem dX1_readWeather_83 : decode cX1_readWeather 83 = .ok (.aload_n 0, 1) := by decide +kernel
theorem dX1_readWeather_84 : decode cX1_readWeather 84 = .ok (.getfield 19, 3) := by decide +kernel
theorem dX1_readWeather_87 : decode cX1_readWeather 87 = .ok (.iload_n 1, 1) := by decide +kernel
theorem dX1_readWeather_88 : decode cX1_readWeather 88 = .ok (.invokevirtual 155, 3) := by decide +kernel
theorem dX1_readWeather_91 : decode cX1_readWeather 91 = .ok (.invokevirtual 159, 3) := by decide +kernel
theorem dX1_readWeather_94 : decode cX1_readWeather 94 = .ok (.iinc 1 1, 3) := by decide +kernel
theorem dX1_readWeather_97 : decode cX1_readWeather 97 = .ok (.goto (-29), 3) := by decide +kernel
theorem dX1_readWeather_100 : decode cX1_readWeather 100 = .ok (.aload_n 0, 1) := by decide +kernel
theorem dX1_readWeather_101 : decode cX1_readWeather 101 = .ok (.getfield 19, 3) := by decide +kernel
theorem dX1_readWeather_104 : decode cX1_readWeather 104 = .ok (.invokevirtual 81, 3) := by decide +kernel
theorem dX1_readWeather_107 : decode cX1_readWeather 107 = .ok (.ireturn, 1) := by decide +kernel
abbrev rmX1_readWeather : Room := { frames := 3, cells := 0, slots := 0, locals := 65 }
set_option maxHeartbeats 4000000 in
set_option maxRecDepth 100000 in
theorem kX1_readWeather (l : Launch) (D : va_G) (cy : Nat → ClassId) (h0 : Nat) (a0 : Nat → Nat) (a1 : Nat → Nat) (a2 : Nat → Nat) (s0 : Rc) (s1 : Rc) (s2 : Rc) (res : Int32 × Rc × Rc) (h : fX1_readWeather s0 s1 s2 = some res) : CZ l D cy yX1_readWeather wsX1_readWeather rmX1_readWeather [.ref h0] (flat [WX1 cy h0 a0 s0, WX8 cy (a0 0) a1 s1, WX0 cy (a0 1) a2 s2]) (flat [WX1 cy h0 a0 s0, WX8 cy (a0 0) a1 res.2.1, WX0 cy (a0 1) a2 res.2.2]) res.1 := by
  refine CZ.of (cc := cX1_readWeather) (maxL := 2) (by decide) rfl (Nat.le_of_ble_eq_true rfl) ?_
  intro p e s m args below meth c A QQ ls E hr
  obtain ⟨hx, hb, hml, hown, hts, hK, hN, hP, hD, hA, hl⟩ := E
  have hret : ∀ (pc : Nat) (H : Heap) (locs : List Loc) (ls : Array Slot) (u : Int32 × Rc × Rc), u = res → va_P D vwCl (flat [WX1 cy h0 a0 s0, WX8 cy (a0 0) a1 u.2.1, WX0 cy (a0 1) a2 u.2.2]) H → va_D A (flat [WX1 cy h0 a0 s0, WX8 cy (a0 0) a1 u.2.1, WX0 cy (a0 1) a2 u.2.2]) → va_S A s.heap H locs → isb u.1 = true → decode cX1_readWeather pc = .ok (.ireturn, 1) → W p l e rmX1_readWeather s m args below meth c H locs 0 0 QQ (F0 m pc ls [.int u.1]) := by
    intro pc H locs ls u hu hP hD hS hz hd; subst hu; exact hr pc H locs ls _ rfl hP hD hS hz hd
  clear hr
  have hl : lv_has ls 2 [(0, .ref h0)] := hl
  have hinX0 : ∀ w ∈ wsX00, w ∈ wsX1_readWeather := fun _ h => List.mem_cons_of_mem _ (List.mem_append_left _ (List.mem_append_right _ h))
  have hinX1 : ∀ w ∈ wsX10, w ∈ wsX1_readWeather := fun _ h => List.mem_cons_of_mem _ (List.mem_append_left _ (List.mem_append_left _ (List.mem_append_right _ h)))
  have hinX8 : ∀ w ∈ wsX80, w ∈ wsX1_readWeather := fun _ h => List.mem_cons_of_mem _ (List.mem_append_right _ h)
  unfold fX1_readWeather at h
  suffices key : ∀ (H : Heap) (locs : List Loc), va_P D vwCl (flat [WX1 cy h0 a0 s0, WX8 cy (a0 0) a1 s1, WX0 cy (a0 1) a2 s2]) H → va_S A s.heap H locs → W p l e rmX1_readWeather s m args below meth c H locs 0 0 QQ (F0 m 0 ls []) from key _ _ hP va_S.rf
  clear hP
  intro H locs hP hS
  refine lv_aload_n hx hb dX1_readWeather_0 rfl (lv_at hl 0 rfl) ?_
  refine va_get (D := D) (ci := 1) (v := .ref (a0 0)) (C := RX1) (T := TX1) (N := 4) hx hb hts hinX1 hown hK hP 0 rfl rfl 0 (by decide) (hts (.fieldLink RX1 19 "KneeBench$BenchText" "tokens" "LKneeBench$Tokens;") (List.mem_of_getElem? (i := 1) rfl)) (fun _ h9 => h9) rfl dX1_readWeather_1 ?_
  obtain ⟨r1, hr1, h⟩ := bd_elim h
  refine ca_z (w' := [WX1 cy h0 a0 s0, WX8 cy (a0 0) a1 r1.2, WX0 cy (a0 1) a2 s2]) (rn_V (As := []) (rest := []) ⟨hx, hb, hml, hown, hts⟩ (kX8_advance l D cy (a0 0) a1 s1 r1 hr1 H.size) (cwV 0 hts gX1_readWeather_X8_advance rfl rfl rfl (by decide +kernel) ⟨Nat.le_of_ble_eq_true rfl, Nat.le_of_ble_eq_true rfl⟩) hK hN hP hD [1] rfl rfl (ci := 8) (q0 := 1) rfl rfl rfl rfl hl.1 rfl (Nat.le_of_ble_eq_true rfl) dX1_readWeather_4 ⟨Nat.le_refl 0, Nat.le_refl 0⟩) hP hD hS hA [1] ⟨rfl, rfl, rfl, rfl⟩ (fun b2 H locs hP hD hS => ?_)
  refine lv_if_eq (tgt := 20) hx hb dX1_readWeather_7 (by decide) (fun c3 => ?_) (fun c3 => ?_)
  · replace h := (if_pos c3).symm.trans h
    refine lv_iconst (v := 0) hx hb dX1_readWeather_20 (by decide) ?_
    exact hret 21 H locs ls ((0 : Int32), r1.2, s2) (Option.some.inj h) hP hD hS (show isb (0 : Int32) = true by decide) dX1_readWeather_21
  · replace h := (if_neg c3).symm.trans h
    refine lv_aload_n hx hb dX1_readWeather_10 rfl (lv_at hl 0 rfl) ?_
    refine va_get (D := D) (ci := 1) (v := .ref (a0 0)) (C := RX1) (T := TX1) (N := 4) hx hb hts hinX1 hown hK hP 0 rfl rfl 0 (by decide) (hts (.fieldLink RX1 19 "KneeBench$BenchText" "tokens" "LKneeBench$Tokens;") (List.mem_of_getElem? (i := 1) rfl)) (fun _ h9 => h9) rfl dX1_readWeather_11 ?_
    obtain ⟨r4, hr4, h⟩ := bd_elim h
    refine ca_z (w' := [WX1 cy h0 a0 s0, WX8 cy (a0 0) a1 r4.2, WX0 cy (a0 1) a2 s2]) (rn_V (As := []) (rest := []) ⟨hx, hb, hml, hown, hts⟩ (kX8_mustBeLetters l D cy (a0 0) a1 r1.2 r4 hr4 H.size) (cwV 0 hts gX1_readWeather_X8_mustBeLetters rfl rfl rfl (by decide +kernel) ⟨Nat.le_of_ble_eq_true rfl, Nat.le_of_ble_eq_true rfl⟩) hK hN hP hD [1] rfl rfl (ci := 8) (q0 := 1) rfl rfl rfl rfl hl.1 rfl (Nat.le_of_ble_eq_true rfl) dX1_readWeather_14 ⟨Nat.le_refl 0, Nat.le_refl 0⟩) hP hD hS hA [1] ⟨rfl, rfl, rfl, rfl⟩ (fun b5 H locs hP hD hS => ?_)
    refine lv_if_ne (tgt := 22) hx hb dX1_readWeather_17 (by decide) (fun c6 => ?_) (fun c6 => ?_)
    · replace h := (if_neg c6).symm.trans h
      refine lv_aload_n hx hb dX1_readWeather_22 rfl (lv_at hl 0 rfl) ?_
      refine va_get (D := D) (ci := 1) (v := .ref (a0 1)) (C := RX1) (T := TX1) (N := 4) hx hb hts hinX1 hown hK hP 0 rfl rfl 1 (by decide) (hts (.fieldLink RX1 23 "KneeBench$BenchText" "draft" "LKneeBench$Bench;") (List.mem_of_getElem? (i := 2) rfl)) (fun _ h9 => h9) rfl dX1_readWeather_23 ?_
      refine va_getN (D := D) (ci := 0) (v := .int (gi s2 9)) (C := RX0) (T := TX0) (N := 14) hx hb hts hinX0 hown hK hP 4 rfl rfl 9 (by decide) (NW.fld hN 18 rfl _) (fun _ h9 => h9) rfl dX1_readWeather_26 ?_
      refine lv_aload_n hx hb dX1_readWeather_29 rfl (lv_at hl 0 rfl) ?_
      refine va_get (D := D) (ci := 1) (v := .ref (a0 0)) (C := RX1) (T := TX1) (N := 4) hx hb hts hinX1 hown hK hP 0 rfl rfl 0 (by decide) (hts (.fieldLink RX1 19 "KneeBench$BenchText" "tokens" "LKneeBench$Tokens;") (List.mem_of_getElem? (i := 1) rfl)) (fun _ h9 => h9) rfl dX1_readWeather_30 ?_
      refine va_getN (D := D) (ci := 8) (v := .int (gi r4.2 5)) (C := RX8) (T := TX8) (N := 14) hx hb hts hinX8 hown hK hP 1 rfl rfl 5 (by decide) (NW.fld hN 44 rfl _) (fun _ h9 => h9) rfl dX1_readWeather_33 ?_
      refine lv_iadd hx hb dX1_readWeather_36 ?_
      refine lv_aload_n hx hb dX1_readWeather_37 rfl (lv_at hl 0 rfl) ?_
      refine va_get (D := D) (ci := 1) (v := .ref (a0 0)) (C := RX1) (T := TX1) (N := 4) hx hb hts hinX1 hown hK hP 0 rfl rfl 0 (by decide) (hts (.fieldLink RX1 19 "KneeBench$BenchText" "tokens" "LKneeBench$Tokens;") (List.mem_of_getElem? (i := 1) rfl)) (fun _ h9 => h9) rfl dX1_readWeather_38 ?_
      refine va_getN (D := D) (ci := 8) (v := .int (gi r4.2 4)) (C := RX8) (T := TX8) (N := 14) hx hb hts hinX8 hown hK hP 1 rfl rfl 4 (by decide) (NW.fld hN 43 rfl _) (fun _ h9 => h9) rfl dX1_readWeather_41 ?_
      refine lv_isub hx hb dX1_readWeather_44 ?_
      refine lv_bipush (v := 60) hx hb dX1_readWeather_45 (by decide) ?_
      refine lv_icmp_le (tgt := 60) hx hb dX1_readWeather_47 (by decide) (fun c7 => ?_) (fun c7 => ?_)
      · replace h := (if_pos c7).symm.trans h
        refine lv_aload_n hx hb dX1_readWeather_60 rfl (lv_at hl 0 rfl) ?_
        refine va_get (D := D) (ci := 1) (v := .ref (a0 0)) (C := RX1) (T := TX1) (N := 4) hx hb hts hinX1 hown hK hP 0 rfl rfl 0 (by decide) (hts (.fieldLink RX1 19 "KneeBench$BenchText" "tokens" "LKneeBench$Tokens;") (List.mem_of_getElem? (i := 1) rfl)) (fun _ h9 => h9) rfl dX1_readWeather_61 ?_
        refine va_getN (D := D) (ci := 8) (v := .int (gi r4.2 4)) (C := RX8) (T := TX8) (N := 14) hx hb hts hinX8 hown hK hP 1 rfl rfl 4 (by decide) (NW.fld hN 43 rfl _) (fun _ h9 => h9) rfl dX1_readWeather_64 ?_
        refine lv_topi (fun x8 ex8 => ?_)
        replace h := lt_use h x8 ex8
        refine lv_istore_n (lv' := [(1, .int x8), (0, .ref h0)]) hx hb dX1_readWeather_67 rfl hl (by decide) rfl (fun ls hl => ?_)
        have L68 : ∀ (n : Nat) (q68 : Int32 × Rc) (o : Rc), loopO (fX1_readWeather_L68 r4) n q68 = some o → ∀ (H : Heap) (locs : List Loc) (ls : Array Slot), lv_has ls 2 [(0, .ref h0), (1, .int q68.1)] → va_P D vwCl (flat [WX1 cy h0 a0 s0, WX8 cy (a0 0) a1 r4.2, WX0 cy (a0 1) a2 q68.2]) H → va_D A (flat [WX1 cy h0 a0 s0, WX8 cy (a0 0) a1 r4.2, WX0 cy (a0 1) a2 q68.2]) → va_S A s.heap H locs → ∀ (kk100 : ∀ (H : Heap) (locs : List Loc) (ls : Array Slot), lv_has ls 2 [(0, .ref h0)] → va_P D vwCl (flat [WX1 cy h0 a0 s0, WX8 cy (a0 0) a1 r4.2, WX0 cy (a0 1) a2 o]) H → va_D A (flat [WX1 cy h0 a0 s0, WX8 cy (a0 0) a1 r4.2, WX0 cy (a0 1) a2 o]) → va_S A s.heap H locs → W p l e rmX1_readWeather s m args below meth c H locs 0 0 QQ (F0 m 100 ls [])), W p l e rmX1_readWeather s m args below meth c H locs 0 0 QQ (F0 m 68 ls []) := by
          intro n
          induction n with
          | zero => intro q68 o h; exact absurd h (by rw [loopO_zero]; intro z; cases z)
          | succ n ih =>
            intro q68 o h H locs ls hl hP hD hS kk100
            obtain ⟨w, h, hgo, hst⟩ := loopO_elim h
            unfold fX1_readWeather_L68 at h
            refine lv_iload_n hx hb dX1_readWeather_68 rfl (lv_at hl 1 rfl) ?_
            refine lv_aload_n hx hb dX1_readWeather_69 rfl (lv_at hl 0 rfl) ?_
            refine va_get (D := D) (ci := 1) (v := .ref (a0 0)) (C := RX1) (T := TX1) (N := 4) hx hb hts hinX1 hown hK hP 0 rfl rfl 0 (by decide) (hts (.fieldLink RX1 19 "KneeBench$BenchText" "tokens" "LKneeBench$Tokens;") (List.mem_of_getElem? (i := 1) rfl)) (fun _ h9 => h9) rfl dX1_readWeather_70 ?_
            refine va_getN (D := D) (ci := 8) (v := .int (gi r4.2 5)) (C := RX8) (T := TX8) (N := 14) hx hb hts hinX8 hown hK hP 1 rfl rfl 5 (by decide) (NW.fld hN 44 rfl _) (fun _ h9 => h9) rfl dX1_readWeather_73 ?_
            refine lv_icmp_ge (tgt := 100) hx hb dX1_readWeather_76 (by decide) (fun c9 => ?_) (fun c9 => ?_)
            · replace h := (if_pos c9).symm.trans h
              have eo := hst _ (Option.some.inj h).symm
              subst eo
              exact kk100 H locs ls (lv_sub hl [0] rfl) hP hD hS
            · replace h := (if_neg c9).symm.trans h
              refine lv_aload_n hx hb dX1_readWeather_79 rfl (lv_at hl 0 rfl) ?_
              refine va_get (D := D) (ci := 1) (v := .ref (a0 1)) (C := RX1) (T := TX1) (N := 4) hx hb hts hinX1 hown hK hP 0 rfl rfl 1 (by decide) (hts (.fieldLink RX1 23 "KneeBench$BenchText" "draft" "LKneeBench$Bench;") (List.mem_of_getElem? (i := 2) rfl)) (fun _ h9 => h9) rfl dX1_readWeather_80 ?_
              refine lv_aload_n hx hb dX1_readWeather_83 rfl (lv_at hl 0 rfl) ?_
              refine va_get (D := D) (ci := 1) (v := .ref (a0 0)) (C := RX1) (T := TX1) (N := 4) hx hb hts hinX1 hown hK hP 0 rfl rfl 0 (by decide) (hts (.fieldLink RX1 19 "KneeBench$BenchText" "tokens" "LKneeBench$Tokens;") (List.mem_of_getElem? (i := 1) rfl)) (fun _ h9 => h9) rfl dX1_readWeather_84 ?_
              refine lv_iload_n hx hb dX1_readWeather_87 rfl (lv_at hl 1 rfl) ?_
              obtain ⟨r10, hr10, h⟩ := bd_elim h
              refine ca_i (w' := [WX1 cy h0 a0 s0, WX8 cy (a0 0) a1 r4.2, WX0 cy (a0 1) a2 q68.2]) (rn_V (As := [.int q68.1]) (rest := [.ref (a0 1)]) ⟨hx, hb, hml, hown, hts⟩ (kX8_weatherAt l D cy (a0 0) a1 r4.2 q68.1 r10 hr10 H.size) (cwV 1 hts gX1_readWeather_X8_weatherAt rfl rfl rfl (by decide +kernel) ⟨Nat.le_of_ble_eq_true rfl, Nat.le_of_ble_eq_true rfl⟩) hK hN hP hD [1] rfl rfl (ci := 8) (q0 := 1) rfl rfl rfl rfl hl.1 rfl (Nat.le_of_ble_eq_true rfl) dX1_readWeather_88 ⟨Nat.le_refl 0, Nat.le_refl 0⟩) hP hD hS hA [1] ⟨rfl, rfl, rfl, rfl⟩ (fun H locs hP hD hS => ?_)
              obtain ⟨r11, hr11, h⟩ := lt_elim h
              refine ca_v (w' := [WX1 cy h0 a0 s0, WX8 cy (a0 0) a1 r4.2, WX0 cy (a0 1) a2 r11]) (rn_V (As := [.int r10]) (rest := []) ⟨hx, hb, hml, hown, hts⟩ (kX0_addDay l D cy (a0 1) a2 q68.2 r10 r11 hr11.symm H.size) (cwV 1 hts gX1_readWeather_X0_addDay rfl rfl rfl (by decide +kernel) ⟨Nat.le_of_ble_eq_true rfl, Nat.le_of_ble_eq_true rfl⟩) hK hN hP hD [2] rfl rfl (ci := 0) (q0 := 4) rfl rfl rfl rfl hl.1 rfl (Nat.le_of_ble_eq_true rfl) dX1_readWeather_91 ⟨Nat.le_refl 0, Nat.le_refl 0⟩) hP hD hS hA [2] ⟨rfl, rfl, rfl, rfl⟩ (fun H locs hP hD hS => ?_)
              refine lv_iinc (v := (q68.1 + (1 : Int32))) (lv' := [(1, .int (q68.1 + (1 : Int32))), (0, .ref h0)]) hx hb dX1_readWeather_94 hl (k := 1) rfl rfl (by decide) rfl (fun ls hl => ?_)
              refine lv_goto (tgt := 68) hx hb dX1_readWeather_97 (by decide) ?_
              exact ih _ o (hgo _ (Option.some.inj h).symm) H locs ls (lv_sub hl [1, 0] rfl) hP hD hS kk100
        obtain ⟨o68, ho68, h⟩ := bd_elim h
        obtain ⟨n68, hn68⟩ := loopF_some ho68
        refine L68 n68 _ o68 hn68 H locs ls (lv_sub hl [1, 0] rfl) hP hD hS (fun H locs ls hl hP hD hS => ?_)
        refine lv_aload_n hx hb dX1_readWeather_100 rfl (lv_at hl 0 rfl) ?_
        refine va_get (D := D) (ci := 1) (v := .ref (a0 0)) (C := RX1) (T := TX1) (N := 4) hx hb hts hinX1 hown hK hP 0 rfl rfl 0 (by decide) (hts (.fieldLink RX1 19 "KneeBench$BenchText" "tokens" "LKneeBench$Tokens;") (List.mem_of_getElem? (i := 1) rfl)) (fun _ h9 => h9) rfl dX1_readWeather_101 ?_
        obtain ⟨r12, hr12, h⟩ := bd_elim h
        refine ca_z (w' := [WX1 cy h0 a0 s0, WX8 cy (a0 0) a1 r12.2, WX0 cy (a0 1) a2 o68]) (rn_V (As := []) (rest := []) ⟨hx, hb, hml, hown, hts⟩ (kX8_advance l D cy (a0 0) a1 r4.2 r12 hr12 H.size) (cwV 0 hts gX1_readWeather_X8_advance rfl rfl rfl (by decide +kernel) ⟨Nat.le_of_ble_eq_true rfl, Nat.le_of_ble_eq_true rfl⟩) hK hN hP hD [1] rfl rfl (ci := 8) (q0 := 1) rfl rfl rfl rfl hl.1 rfl (Nat.le_of_ble_eq_true rfl) dX1_readWeather_104 ⟨Nat.le_refl 0, Nat.le_refl 0⟩) hP hD hS hA [1] ⟨rfl, rfl, rfl, rfl⟩ (fun b13 H locs hP hD hS => ?_)
        exact hret 107 H locs ls (r12.1, r12.2, o68) (Option.some.inj h) hP hD hS b13 dX1_readWeather_107
      · replace h := (if_neg c7).symm.trans h
        refine lv_aload_n hx hb dX1_readWeather_50 rfl (lv_at hl 0 rfl) ?_
        refine va_get (D := D) (ci := 1) (v := .ref (a0 0)) (C := RX1) (T := TX1) (N := 4) hx hb hts hinX1 hown hK hP 0 rfl rfl 0 (by decide) (hts (.fieldLink RX1 19 "KneeBench$BenchText" "tokens" "LKneeBench$Tokens;") (List.mem_of_getElem? (i := 1) rfl)) (fun _ h9 => h9) rfl dX1_readWeather_51 ?_
        refine lv_bipush (v := 6) hx hb dX1_readWeather_54 (by decide) ?_
        obtain ⟨r14, hr14, h⟩ := lt_elim h
        refine ca_z (w' := [WX1 cy h0 a0 s0, WX8 cy (a0 0) a1 r14.2, WX0 cy (a0 1) a2 s2]) (rn_V (As := [.int (6 : Int32)]) (rest := []) ⟨hx, hb, hml, hown, hts⟩ (kX8_fail l D cy (a0 0) a1 r4.2 (6 : Int32) r14 hr14.symm H.size) (cwV 1 hts gX1_readWeather_X8_fail rfl rfl rfl (by decide +kernel) ⟨Nat.le_of_ble_eq_true rfl, Nat.le_of_ble_eq_true rfl⟩) hK hN hP hD [1] rfl rfl (ci := 8) (q0 := 1) rfl rfl rfl rfl hl.1 rfl (Nat.le_of_ble_eq_true rfl) dX1_readWeather_56 ⟨Nat.le_refl 0, Nat.le_refl 0⟩) hP hD hS hA [1] ⟨rfl, rfl, rfl, rfl⟩ (fun b15 H locs hP hD hS => ?_)
        exact hret 59 H locs ls (r14.1, r14.2, s2) (Option.some.inj h) hP hD hS b15 dX1_readWeather_59
    · replace h := (if_pos c6).symm.trans h
      refine lv_iconst (v := 0) hx hb dX1_readWeather_20 (by decide) ?_
      exact hret 21 H locs ls ((0 : Int32), r4.2, s2) (Option.some.inj h) hP hD hS (show isb (0 : Int32) = true by decide) dX1_readWeather_21
set_option maxRecDepth 20000 in
theorem ggX1_readVote_X8_fail : GoodIn wsX1_readVote wsX8_fail := goodIn_r _ [8, 9, 10, 11, 47, 48, 49, 50, 51, 52, 53, 54, 55, 56, 57, 58, 59, 60] (by decide +kernel) (by decide +kernel)
set_option maxRecDepth 20000 in
theorem gX1_readVote_X8_fail : GoodIn wsX1_readVote (wsV RX1 75 RX8 yX8_fail wsX8_fail) := goodIn_app (goodIn_of _ (by decide +kernel)) ggX1_readVote_X8_fail
set_option maxRecDepth 20000 in
theorem ggX1_readVote_X8_advance : GoodIn wsX1_readVote wsX8_advance := goodIn_r _ [15, 16, 10, 17, 18, 19, 20, 21, 22, 23, 24, 25, 7, 26, 27, 28, 29, 30, 31, 32, 33, 34, 35, 36, 37, 38, 39, 5, 6, 8, 9, 11, 47, 48, 49, 50, 51, 52, 53, 54, 55, 56, 57, 58, 59, 60] (by decide +kernel) (by decide +kernel)
set_option maxRecDepth 20000 in
theorem gX1_readVote_X8_advance : GoodIn wsX1_readVote (wsV RX1 81 RX8 yX8_advance wsX8_advance) := goodIn_app (goodIn_of _ (by decide +kernel)) ggX1_readVote_X8_advance
set_option maxRecDepth 20000 in
theorem ggX1_readVote_X10_outside : GoodIn wsX1_readVote wsX10_outside := goodIn_r _ [42] (by decide +kernel) (by decide +kernel)
set_option maxRecDepth 20000 in
theorem gX1_readVote_X10_outside_n163 : GoodIn wsX1_readVote (wsX10_outside) := ggX1_readVote_X10_outside
theorem dX1_readVote_0 : decode cX1_readVote 0 = .ok (.aload_n 0, 1) := by decide +kernel
theorem dX1_readVote_1 : decode cX1_readVote 1 = .ok (.getfield 15, 3) := by decide +kernel
theorem dX1_readVote_4 : decode cX1_readVote 4 = .ok (.ifCond .eq 12, 3) := by decide +kernel
theorem dX1_readVote_7 : decode cX1_readVote 7 = .ok (.aload_n 0, 1) := by decide +kernel
theorem dX1_readVote_8 : decode cX1_readVote 8 = .ok (.getfield 19, 3) := by decide +kernel
theorem dX1_readVote_11 : decode cX1_readVote 11 = .ok (.iconst 5, 1) := by decide +kernel
theorem dX1_readVote_12 : decode cX1_readVote 12 = .ok (.invokevirtual 75, 3) := by decide +kernel
theorem dX1_readVote_15 : decode cX1_readVote 15 = .ok (.ireturn, 1) := by decide +kernel
theorem dX1_readVote_16 : decode cX1_readVote 16 = .ok (.aload_n 0, 1) := by decide +kernel
theorem dX1_readVote_17 : decode cX1_readVote 17 = .ok (.iconst 1, 1) := by decide +kernel
theorem dX1_readVote_18 : decode cX1_readVote 18 = .ok (.putfield 15, 3) := by decide +kernel
theorem dX1_readVote_21 : decode cX1_readVote 21 = .ok (.aload_n 0, 1) := by decide +kernel
theorem dX1_readVote_22 : decode cX1_readVote 22 = .ok (.getfield 19, 3) := by decide +kernel
theorem dX1_readVote_25 : decode cX1_readVote 25 = .ok (.invokevirtual 81, 3) := by decide +kernel
theorem dX1_readVote_28 : decode cX1_readVote 28 = .ok (.ifCond .ne 5, 3) := by decide +kernel
theorem dX1_readVote_31 : decode cX1_readVote 31 = .ok (.iconst 0, 1) := by decide +kernel
theorem dX1_readVote_32 : decode cX1_readVote 32 = .ok (.ireturn, 1) := by decide +kernel
theorem dX1_readVote_33 : decode cX1_readVote 33 = .ok (.aload_n 0, 1) := by decide +kernel
theorem dX1_readVote_34 : decode cX1_readVote 34 = .ok (.getfield 19, 3) := by decide +kernel
theorem dX1_readVote_37 : decode cX1_readVote 37 = .ok (.getfield 51, 3) := by decide +kernel
theorem dX1_readVote_40 : decode cX1_readVote 40 = .ok (.bipush 10, 2) := by decide +kernel
theorem dX1_readVote_42 : decode cX1_readVote 42 = .ok (.bipush 13, 2) := by decide +kernel
theorem dX1_readVote_44 : decode cX1_readVote 44 = .ok (.invokestatic 163, 3) := by decide +kernel
theorem dX1_readVote_47 : decode cX1_readVote 47 = .ok (.ifCond .eq 12, 3) := by decide +kernel
theorem dX1_readVote_50 : decode cX1_readVote 50 = .ok (.aload_n 0, 1) := by decide +kernel
theorem dX1_readVote_51 : decode cX1_readVote 51 = .ok (.getfield 19, 3) := by decide +kernel
theorem dX1_readVote_54 : decode cX1_readVote 54 = .ok (.iconst 2, 1) := by decide +kernel
theorem dX1_readVote_55 : decode cX1_readVote 55 = .ok (.invokevirtual 75, 3) := by decide +kernel
theorem dX1_readVote_58 : decode cX1_readVote 58 = .ok (.ireturn, 1) := by decide +kernel
theorem dX1_readVote_59 : decode cX1_readVote 59 = .ok (.aload_n 0, 1) := by decide +kernel
theorem dX1_readVote_60 : decode cX1_readVote 60 = .ok (.getfield 23, 3) := by decide +kernel
theorem dX1_readVote_63 : decode cX1_readVote 63 = .ok (.aload_n 0, 1) := by decide +kernel
theorem dX1_readVote_64 : decode cX1_readVote 64 = .ok (.getfield 19, 3) := by decide +kernel
theorem dX1_readVote_67 : decode cX1_readVote 67 = .ok (.getfield 51, 3) := by decide +kernel
theorem dX1_readVote_70 : decode cX1_readVote 70 = .ok (.bipush 10, 2) := by decide +kernel
theorem dX1_readVote_72 : decode cX1_readVote 72 = .ok (.isub, 1) := by decide +kernel
theorem dX1_readVote_73 : decode cX1_readVote 73 = .ok (.putfield 167, 3) := by decide +kernel
theorem dX1_readVote_76 : decode cX1_readVote 76 = .ok (.aload_n 0, 1) := by decide +kernel
theorem dX1_readVote_77 : decode cX1_readVote 77 = .ok (.getfield 19, 3) := by decide +kernel
theorem dX1_readVote_80 : decode cX1_readVote 80 = .ok (.invokevirtual 81, 3) := by decide +kernel
theorem dX1_readVote_83 : decode cX1_readVote 83 = .ok (.ireturn, 1) := by decide +kernel
abbrev rmX1_readVote : Room := { frames := 3, cells := 0, slots := 0, locals := 65 }
set_option maxHeartbeats 4000000 in
set_option maxRecDepth 100000 in
theorem kX1_readVote (l : Launch) (D : va_G) (cy : Nat → ClassId) (h0 : Nat) (a0 : Nat → Nat) (a1 : Nat → Nat) (a2 : Nat → Nat) (s0 : Rc) (s1 : Rc) (s2 : Rc) (res : Int32 × Rc × Rc × Rc) (h : fX1_readVote s0 s1 s2 = some res) : CZ l D cy yX1_readVote wsX1_readVote rmX1_readVote [.ref h0] (flat [WX1 cy h0 a0 s0, WX8 cy (a0 0) a1 s1, WX0 cy (a0 1) a2 s2]) (flat [WX1 cy h0 a0 res.2.1, WX8 cy (a0 0) a1 res.2.2.1, WX0 cy (a0 1) a2 res.2.2.2]) res.1 := by
  refine CZ.of (cc := cX1_readVote) (maxL := 1) (by decide) rfl (Nat.le_of_ble_eq_true rfl) ?_
  intro p e s m args below meth c A QQ ls E hr
  obtain ⟨hx, hb, hml, hown, hts, hK, hN, hP, hD, hA, hl⟩ := E
  have hret : ∀ (pc : Nat) (H : Heap) (locs : List Loc) (ls : Array Slot) (u : Int32 × Rc × Rc × Rc), u = res → va_P D vwCl (flat [WX1 cy h0 a0 u.2.1, WX8 cy (a0 0) a1 u.2.2.1, WX0 cy (a0 1) a2 u.2.2.2]) H → va_D A (flat [WX1 cy h0 a0 u.2.1, WX8 cy (a0 0) a1 u.2.2.1, WX0 cy (a0 1) a2 u.2.2.2]) → va_S A s.heap H locs → isb u.1 = true → decode cX1_readVote pc = .ok (.ireturn, 1) → W p l e rmX1_readVote s m args below meth c H locs 0 0 QQ (F0 m pc ls [.int u.1]) := by
    intro pc H locs ls u hu hP hD hS hz hd; subst hu; exact hr pc H locs ls _ rfl hP hD hS hz hd
  clear hr
  have hl : lv_has ls 1 [(0, .ref h0)] := hl
  have hinX0 : ∀ w ∈ wsX00, w ∈ wsX1_readVote := fun _ h => List.mem_cons_of_mem _ (List.mem_append_right _ h)
  have hinX1 : ∀ w ∈ wsX10, w ∈ wsX1_readVote := fun _ h => List.mem_cons_of_mem _ (List.mem_append_left _ (List.mem_append_left _ (List.mem_append_right _ h)))
  have hinX8 : ∀ w ∈ wsX80, w ∈ wsX1_readVote := fun _ h => List.mem_cons_of_mem _ (List.mem_append_left _ (List.mem_append_right _ h))
  unfold fX1_readVote at h
  suffices key : ∀ (H : Heap) (locs : List Loc), va_P D vwCl (flat [WX1 cy h0 a0 s0, WX8 cy (a0 0) a1 s1, WX0 cy (a0 1) a2 s2]) H → va_S A s.heap H locs → W p l e rmX1_readVote s m args below meth c H locs 0 0 QQ (F0 m 0 ls []) from key _ _ hP va_S.rf
  clear hP
  intro H locs hP hS
  refine lv_aload_n hx hb dX1_readVote_0 rfl (lv_at hl 0 rfl) ?_
  refine va_get (D := D) (ci := 1) (v := .int (gi s0 3)) (C := RX1) (T := TX1) (N := 4) hx hb hts hinX1 hown hK hP 0 rfl rfl 3 (by decide) (hts (.fieldLink RX1 15 "KneeBench$BenchText" "isVoteTold" "Z") (List.mem_of_getElem? (i := 1) rfl)) (fun _ h9 => h9) rfl dX1_readVote_1 ?_
  refine lv_if_eq (tgt := 16) hx hb dX1_readVote_4 (by decide) (fun c1 => ?_) (fun c1 => ?_)
  · replace h := (if_pos c1).symm.trans h
    refine lv_aload_n hx hb dX1_readVote_16 rfl (lv_at hl 0 rfl) ?_
    refine lv_iconst (v := 1) hx hb dX1_readVote_17 (by decide) ?_
    obtain ⟨s0_2, es, h⟩ := lt_elim h
    refine va_put (D := D) (ci := 1) (v := .int (1 : Int32)) (ty := .boolean) (C := RX1) (T := TX1) (N := 4) hx hb hts hinX1 tyX1 tyX1_ok nmX1 hown hK hP hD hS 0 rfl rfl 3 (by decide) (hts (.fieldLink RX1 15 "KneeBench$BenchText" "isVoteTold" "Z") (List.mem_of_getElem? (i := 1) rfl)) (fun _ h9 => h9) rfl (by decide +kernel) (isb_nar (show isb (1 : Int32) = true by decide)) (isb_fit (show isb (1 : Int32) = true by decide)) (Nat.le_of_ble_eq_true rfl) dX1_readVote_18 (fun H locs hP hD hS => ?_)
    have hP : va_P D vwCl (flat [WX1 cy h0 a0 s0_2, WX8 cy (a0 0) a1 s1, WX0 cy (a0 1) a2 s2]) H := by rw [es]; exact hP
    have hD : va_D A (flat [WX1 cy h0 a0 s0_2, WX8 cy (a0 0) a1 s1, WX0 cy (a0 1) a2 s2]) := by rw [es]; exact hD
    clear es
    refine lv_aload_n hx hb dX1_readVote_21 rfl (lv_at hl 0 rfl) ?_
    refine va_get (D := D) (ci := 1) (v := .ref (a0 0)) (C := RX1) (T := TX1) (N := 4) hx hb hts hinX1 hown hK hP 0 rfl rfl 0 (by decide) (hts (.fieldLink RX1 19 "KneeBench$BenchText" "tokens" "LKneeBench$Tokens;") (List.mem_of_getElem? (i := 2) rfl)) (fun _ h9 => h9) rfl dX1_readVote_22 ?_
    obtain ⟨r3, hr3, h⟩ := bd_elim h
    refine ca_z (w' := [WX1 cy h0 a0 s0_2, WX8 cy (a0 0) a1 r3.2, WX0 cy (a0 1) a2 s2]) (rn_V (As := []) (rest := []) ⟨hx, hb, hml, hown, hts⟩ (kX8_advance l D cy (a0 0) a1 s1 r3 hr3 H.size) (cwV 0 hts gX1_readVote_X8_advance rfl rfl rfl (by decide +kernel) ⟨Nat.le_of_ble_eq_true rfl, Nat.le_of_ble_eq_true rfl⟩) hK hN hP hD [1] rfl rfl (ci := 8) (q0 := 1) rfl rfl rfl rfl hl.1 rfl (Nat.le_of_ble_eq_true rfl) dX1_readVote_25 ⟨Nat.le_refl 0, Nat.le_refl 0⟩) hP hD hS hA [1] ⟨rfl, rfl, rfl, rfl⟩ (fun b4 H locs hP hD hS => ?_)
    refine lv_if_ne (tgt := 33) hx hb dX1_readVote_28 (by decide) (fun c5 => ?_) (fun c5 => ?_)
    · replace h := (if_neg c5).symm.trans h
      refine lv_aload_n hx hb dX1_readVote_33 rfl (lv_at hl 0 rfl) ?_
      refine va_get (D := D) (ci := 1) (v := .ref (a0 0)) (C := RX1) (T := TX1) (N := 4) hx hb hts hinX1 hown hK hP 0 rfl rfl 0 (by decide) (hts (.fieldLink RX1 19 "KneeBench$BenchText" "tokens" "LKneeBench$Tokens;") (List.mem_of_getElem? (i := 2) rfl)) (fun _ h9 => h9) rfl dX1_readVote_34 ?_
      refine va_getN (D := D) (ci := 8) (v := .int (gi r3.2 8)) (C := RX8) (T := TX8) (N := 14) hx hb hts hinX8 hown hK hP 1 rfl rfl 8 (by decide) (NW.fld hN 47 rfl _) (fun _ h9 => h9) rfl dX1_readVote_37 ?_
      refine lv_bipush (v := 10) hx hb dX1_readVote_40 (by decide) ?_
      refine lv_bipush (v := 13) hx hb dX1_readVote_42 (by decide) ?_
      refine ca_z (w' := [WX1 cy h0 a0 s0_2, WX8 cy (a0 0) a1 r3.2, WX0 cy (a0 1) a2 s2]) (rn_SN (As := [.int (gi r3.2 8), .int (10 : Int32), .int (13 : Int32)]) (rest := []) ⟨hx, hb, hml, hown, hts⟩ (kX10_outside l D cy (gi r3.2 8) (10 : Int32) (13 : Int32) _ rfl H.size) ⟨va_cnB 3 hts gX1_readVote_X10_outside_n163 rfl rfl rfl (NW.met hN 11 rfl) (hts (.initialized RX10) (List.mem_of_getElem? (i := 41) rfl)) (by decide +kernel) ⟨Nat.le_of_ble_eq_true rfl, Nat.le_of_ble_eq_true rfl⟩, hts (.static yX10_outside) (List.mem_of_getElem? (i := 40) rfl), trivial⟩ hK hN hP hD [] rfl rfl rfl hl.1 rfl (Nat.le_of_ble_eq_true rfl) dX1_readVote_44 ⟨Nat.le_refl 0, Nat.le_refl 0⟩) hP hD hS hA [] ⟨rfl, rfl, rfl, rfl⟩ (fun b6 H locs hP hD hS => ?_)
      refine lv_if_eq (tgt := 59) hx hb dX1_readVote_47 (by decide) (fun c7 => ?_) (fun c7 => ?_)
      · replace h := (if_pos c7).symm.trans h
        refine lv_aload_n hx hb dX1_readVote_59 rfl (lv_at hl 0 rfl) ?_
        refine va_get (D := D) (ci := 1) (v := .ref (a0 1)) (C := RX1) (T := TX1) (N := 4) hx hb hts hinX1 hown hK hP 0 rfl rfl 1 (by decide) (hts (.fieldLink RX1 23 "KneeBench$BenchText" "draft" "LKneeBench$Bench;") (List.mem_of_getElem? (i := 3) rfl)) (fun _ h9 => h9) rfl dX1_readVote_60 ?_
        refine lv_aload_n hx hb dX1_readVote_63 rfl (lv_at hl 0 rfl) ?_
        refine va_get (D := D) (ci := 1) (v := .ref (a0 0)) (C := RX1) (T := TX1) (N := 4) hx hb hts hinX1 hown hK hP 0 rfl rfl 0 (by decide) (hts (.fieldLink RX1 19 "KneeBench$BenchText" "tokens" "LKneeBench$Tokens;") (List.mem_of_getElem? (i := 2) rfl)) (fun _ h9 => h9) rfl dX1_readVote_64 ?_
        refine va_getN (D := D) (ci := 8) (v := .int (gi r3.2 8)) (C := RX8) (T := TX8) (N := 14) hx hb hts hinX8 hown hK hP 1 rfl rfl 8 (by decide) (NW.fld hN 47 rfl _) (fun _ h9 => h9) rfl dX1_readVote_67 ?_
        refine lv_bipush (v := 10) hx hb dX1_readVote_70 (by decide) ?_
        refine lv_isub hx hb dX1_readVote_72 ?_
        obtain ⟨s2_8, es, h⟩ := lt_elim h
        refine va_putN (D := D) (ci := 0) (v := .int ((gi r3.2 8) - (10 : Int32))) (ty := .int) (C := RX0) (T := TX0) (N := 14) hx hb hts hinX0 tyX0 tyX0_ok nmX0 hown hK hP hD hS 4 rfl rfl 12 (by decide) (NW.fld hN 22 rfl _) (fun _ h9 => h9) rfl (by decide +kernel) rfl rfl (Nat.le_of_ble_eq_true rfl) dX1_readVote_73 (fun H locs hP hD hS => ?_)
        have hP : va_P D vwCl (flat [WX1 cy h0 a0 s0_2, WX8 cy (a0 0) a1 r3.2, WX0 cy (a0 1) a2 s2_8]) H := by rw [es]; exact hP
        have hD : va_D A (flat [WX1 cy h0 a0 s0_2, WX8 cy (a0 0) a1 r3.2, WX0 cy (a0 1) a2 s2_8]) := by rw [es]; exact hD
        clear es
        refine lv_aload_n hx hb dX1_readVote_76 rfl (lv_at hl 0 rfl) ?_
        refine va_get (D := D) (ci := 1) (v := .ref (a0 0)) (C := RX1) (T := TX1) (N := 4) hx hb hts hinX1 hown hK hP 0 rfl rfl 0 (by decide) (hts (.fieldLink RX1 19 "KneeBench$BenchText" "tokens" "LKneeBench$Tokens;") (List.mem_of_getElem? (i := 2) rfl)) (fun _ h9 => h9) rfl dX1_readVote_77 ?_
        obtain ⟨r9, hr9, h⟩ := bd_elim h
        refine ca_z (w' := [WX1 cy h0 a0 s0_2, WX8 cy (a0 0) a1 r9.2, WX0 cy (a0 1) a2 s2_8]) (rn_V (As := []) (rest := []) ⟨hx, hb, hml, hown, hts⟩ (kX8_advance l D cy (a0 0) a1 r3.2 r9 hr9 H.size) (cwV 0 hts gX1_readVote_X8_advance rfl rfl rfl (by decide +kernel) ⟨Nat.le_of_ble_eq_true rfl, Nat.le_of_ble_eq_true rfl⟩) hK hN hP hD [1] rfl rfl (ci := 8) (q0 := 1) rfl rfl rfl rfl hl.1 rfl (Nat.le_of_ble_eq_true rfl) dX1_readVote_80 ⟨Nat.le_refl 0, Nat.le_refl 0⟩) hP hD hS hA [1] ⟨rfl, rfl, rfl, rfl⟩ (fun b10 H locs hP hD hS => ?_)
        exact hret 83 H locs ls (r9.1, s0_2, r9.2, s2_8) (Option.some.inj h) hP hD hS b10 dX1_readVote_83
      · replace h := (if_neg c7).symm.trans h
        refine lv_aload_n hx hb dX1_readVote_50 rfl (lv_at hl 0 rfl) ?_
        refine va_get (D := D) (ci := 1) (v := .ref (a0 0)) (C := RX1) (T := TX1) (N := 4) hx hb hts hinX1 hown hK hP 0 rfl rfl 0 (by decide) (hts (.fieldLink RX1 19 "KneeBench$BenchText" "tokens" "LKneeBench$Tokens;") (List.mem_of_getElem? (i := 2) rfl)) (fun _ h9 => h9) rfl dX1_readVote_51 ?_
        refine lv_iconst (v := 2) hx hb dX1_readVote_54 (by decide) ?_
        obtain ⟨r11, hr11, h⟩ := lt_elim h
        refine ca_z (w' := [WX1 cy h0 a0 s0_2, WX8 cy (a0 0) a1 r11.2, WX0 cy (a0 1) a2 s2]) (rn_V (As := [.int (2 : Int32)]) (rest := []) ⟨hx, hb, hml, hown, hts⟩ (kX8_fail l D cy (a0 0) a1 r3.2 (2 : Int32) r11 hr11.symm H.size) (cwV 1 hts gX1_readVote_X8_fail rfl rfl rfl (by decide +kernel) ⟨Nat.le_of_ble_eq_true rfl, Nat.le_of_ble_eq_true rfl⟩) hK hN hP hD [1] rfl rfl (ci := 8) (q0 := 1) rfl rfl rfl rfl hl.1 rfl (Nat.le_of_ble_eq_true rfl) dX1_readVote_55 ⟨Nat.le_refl 0, Nat.le_refl 0⟩) hP hD hS hA [1] ⟨rfl, rfl, rfl, rfl⟩ (fun b12 H locs hP hD hS => ?_)
        exact hret 58 H locs ls (r11.1, s0_2, r11.2, s2) (Option.some.inj h) hP hD hS b12 dX1_readVote_58
    · replace h := (if_pos c5).symm.trans h
      refine lv_iconst (v := 0) hx hb dX1_readVote_31 (by decide) ?_
      exact hret 32 H locs ls ((0 : Int32), s0_2, r3.2, s2) (Option.some.inj h) hP hD hS (show isb (0 : Int32) = true by decide) dX1_readVote_32
  · replace h := (if_neg c1).symm.trans h
    refine lv_aload_n hx hb dX1_readVote_7 rfl (lv_at hl 0 rfl) ?_
    refine va_get (D := D) (ci := 1) (v := .ref (a0 0)) (C := RX1) (T := TX1) (N := 4) hx hb hts hinX1 hown hK hP 0 rfl rfl 0 (by decide) (hts (.fieldLink RX1 19 "KneeBench$BenchText" "tokens" "LKneeBench$Tokens;") (List.mem_of_getElem? (i := 2) rfl)) (fun _ h9 => h9) rfl dX1_readVote_8 ?_
    refine lv_iconst (v := 5) hx hb dX1_readVote_11 (by decide) ?_
    obtain ⟨r13, hr13, h⟩ := lt_elim h
    refine ca_z (w' := [WX1 cy h0 a0 s0, WX8 cy (a0 0) a1 r13.2, WX0 cy (a0 1) a2 s2]) (rn_V (As := [.int (5 : Int32)]) (rest := []) ⟨hx, hb, hml, hown, hts⟩ (kX8_fail l D cy (a0 0) a1 s1 (5 : Int32) r13 hr13.symm H.size) (cwV 1 hts gX1_readVote_X8_fail rfl rfl rfl (by decide +kernel) ⟨Nat.le_of_ble_eq_true rfl, Nat.le_of_ble_eq_true rfl⟩) hK hN hP hD [1] rfl rfl (ci := 8) (q0 := 1) rfl rfl rfl rfl hl.1 rfl (Nat.le_of_ble_eq_true rfl) dX1_readVote_12 ⟨Nat.le_refl 0, Nat.le_refl 0⟩) hP hD hS hA [1] ⟨rfl, rfl, rfl, rfl⟩ (fun b14 H locs hP hD hS => ?_)
    exact hret 15 H locs ls (r13.1, s0, r13.2, s2) (Option.some.inj h) hP hD hS b14 dX1_readVote_15
set_option maxRecDepth 20000 in
theorem ggX1_readPart_X1_readNewcomer : GoodIn wsX1_readPart wsX1_readNewcomer := goodIn_r _ [6, 7, 1, 8, 9, 10, 11, 12, 13, 14, 15, 16, 17, 18, 19, 20, 21, 22, 23, 24, 25, 26, 27, 28, 29, 30, 31, 32, 33, 34, 35, 36, 37, 38, 39, 40, 41, 42, 43, 44, 45, 46, 47, 48, 49, 50, 51, 52, 53, 54, 55, 133, 134, 135, 136, 151, 152, 153, 154, 155, 156, 157, 158, 159, 160, 161, 162, 163, 164, 137, 138, 139, 140, 141, 142, 143, 144, 145, 146, 147, 148, 149, 150] (by decide +kernel) (by decide +kernel)
set_option maxRecDepth 20000 in
theorem gX1_readPart_X1_readNewcomer : GoodIn wsX1_readPart (wsV RX1 54 RX1 yX1_readNewcomer wsX1_readNewcomer) := goodIn_app (goodIn_of _ (by decide +kernel)) ggX1_readPart_X1_readNewcomer
set_option maxRecDepth 20000 in
theorem ggX1_readPart_X1_readLag : GoodIn wsX1_readPart wsX1_readLag := goodIn_r _ [59, 1, 7, 8, 60, 61, 62, 12, 63, 27, 64, 18, 19, 20, 21, 15, 22, 23, 24, 25, 26, 28, 29, 30, 31, 32, 33, 34, 35, 36, 37, 38, 39, 40, 41, 42, 43, 44, 10, 11, 13, 14, 16, 65, 66, 67, 68, 69, 70, 71, 72, 73, 74, 133, 134, 135, 136, 137, 138, 139, 140, 141, 142, 143, 144, 145, 146, 147, 148, 149, 150, 151, 152, 153, 154, 155, 156, 157, 158, 159, 160, 161, 162, 163, 164] (by decide +kernel) (by decide +kernel)
set_option maxRecDepth 20000 in
theorem gX1_readPart_X1_readLag : GoodIn wsX1_readPart (wsV RX1 57 RX1 yX1_readLag wsX1_readLag) := goodIn_app (goodIn_of _ (by decide +kernel)) ggX1_readPart_X1_readLag
set_option maxRecDepth 20000 in
theorem ggX1_readPart_X1_readKnee : GoodIn wsX1_readPart wsX1_readKnee := goodIn_r _ [78, 1, 7, 8, 60, 61, 62, 12, 63, 27, 64, 18, 19, 20, 21, 15, 22, 23, 24, 25, 26, 28, 29, 30, 31, 32, 33, 34, 35, 36, 37, 38, 39, 40, 41, 42, 43, 44, 10, 11, 13, 14, 16, 68, 69, 70, 71, 72, 73, 66, 74, 17, 133, 134, 135, 136, 151, 152, 153, 154, 155, 156, 157, 158, 159, 160, 161, 162, 163, 164, 137, 138, 139, 140, 141, 142, 143, 144, 145, 146, 147, 148, 149, 150] (by decide +kernel) (by decide +kernel)
set_option maxRecDepth 20000 in
theorem gX1_readPart_X1_readKnee : GoodIn wsX1_readPart (wsV RX1 60 RX1 yX1_readKnee wsX1_readKnee) := goodIn_app (goodIn_of _ (by decide +kernel)) ggX1_readPart_X1_readKnee
set_option maxRecDepth 20000 in
theorem ggX1_readPart_X1_readCure : GoodIn wsX1_readPart wsX1_readCure := goodIn_r _ [82, 7, 8, 1, 60, 61, 62, 12, 63, 27, 64, 18, 19, 20, 21, 15, 22, 23, 24, 25, 26, 28, 29, 30, 31, 32, 33, 34, 35, 36, 37, 38, 39, 40, 41, 42, 43, 44, 10, 11, 13, 14, 16, 68, 69, 70, 71, 72, 73, 66, 74, 133, 134, 135, 136, 151, 152, 153, 154, 155, 156, 157, 158, 159, 160, 161, 162, 163, 164, 137, 138, 139, 140, 141, 142, 143, 144, 145, 146, 147, 148, 149, 150] (by decide +kernel) (by decide +kernel)
set_option maxRecDepth 20000 in
theorem gX1_readPart_X1_readCure : GoodIn wsX1_readPart (wsV RX1 63 RX1 yX1_readCure wsX1_readCure) := goodIn_app (goodIn_of _ (by decide +kernel)) ggX1_readPart_X1_readCure
set_option maxRecDepth 20000 in
theorem ggX1_readPart_X1_readDislikes : GoodIn wsX1_readPart wsX1_readDislikes := goodIn_r _ [86, 1, 7, 17, 18, 19, 12, 20, 21, 15, 22, 23, 24, 25, 26, 27, 28, 29, 30, 31, 32, 33, 34, 35, 36, 37, 38, 39, 40, 41, 42, 43, 44, 10, 11, 13, 14, 16, 87, 88, 89, 90, 91, 92, 93, 94, 95, 96, 46, 47, 48, 97, 50, 51, 52, 53, 54, 55, 64, 98, 9, 68, 69, 70, 71, 72, 73, 66, 74, 99, 100, 101, 102, 103, 133, 134, 135, 136, 137, 138, 139, 140, 141, 142, 143, 144, 145, 146, 147, 148, 149, 150, 151, 152, 153, 154, 155, 156, 157, 158, 159, 160, 161, 162, 163, 164] (by decide +kernel) (by decide +kernel)
set_option maxRecDepth 20000 in
theorem gX1_readPart_X1_readDislikes : GoodIn wsX1_readPart (wsV RX1 66 RX1 yX1_readDislikes wsX1_readDislikes) := goodIn_app (goodIn_of _ (by decide +kernel)) ggX1_readPart_X1_readDislikes
set_option maxRecDepth 20000 in
theorem ggX1_readPart_X1_readWeather : GoodIn wsX1_readPart wsX1_readWeather := goodIn_r _ [107, 1, 7, 17, 18, 19, 12, 20, 21, 15, 22, 23, 24, 25, 26, 27, 28, 29, 30, 31, 32, 33, 34, 35, 36, 37, 38, 39, 40, 41, 42, 43, 44, 10, 11, 13, 14, 16, 108, 109, 110, 111, 112, 113, 114, 115, 9, 116, 117, 118, 119, 52, 120, 121, 122, 123, 124, 125, 126, 127, 133, 134, 135, 136, 151, 152, 153, 154, 155, 156, 157, 158, 159, 160, 161, 162, 163, 164, 137, 138, 139, 140, 141, 142, 143, 144, 145, 146, 147, 148, 149, 150] (by decide +kernel) (by decide +kernel)
set_option maxRecDepth 20000 in
theorem gX1_readPart_X1_readWeather : GoodIn wsX1_readPart (wsV RX1 69 RX1 yX1_readWeather wsX1_readWeather) := goodIn_app (goodIn_of _ (by decide +kernel)) ggX1_readPart_X1_readWeather
set_option maxRecDepth 20000 in
theorem ggX1_readPart_X1_readVote : GoodIn wsX1_readPart wsX1_readVote := goodIn_r _ [131, 132, 1, 7, 9, 10, 11, 12, 13, 14, 15, 16, 17, 18, 19, 20, 21, 22, 23, 24, 25, 26, 27, 28, 29, 30, 31, 32, 33, 34, 35, 36, 37, 38, 39, 40, 41, 42, 43, 44, 73, 66, 74, 133, 134, 135, 136, 137, 138, 139, 140, 141, 142, 143, 144, 145, 146, 147, 148, 149, 150, 151, 152, 153, 154, 155, 156, 157, 158, 159, 160, 161, 162, 163, 164] (by decide +kernel) (by decide +kernel)
set_option maxRecDepth 20000 in
theorem gX1_readPart_X1_readVote : GoodIn wsX1_readPart (wsV RX1 72 RX1 yX1_readVote wsX1_readVote) := goodIn_app (goodIn_of _ (by decide +kernel)) ggX1_readPart_X1_readVote
set_option maxRecDepth 20000 in
theorem ggX1_readPart_X8_fail : GoodIn wsX1_readPart wsX8_fail := goodIn_r _ [13, 14, 15, 16, 137, 138, 139, 140, 141, 142, 143, 144, 145, 146, 147, 148, 149, 150] (by decide +kernel) (by decide +kernel)
set_option maxRecDepth 20000 in
theorem gX1_readPart_X8_fail : GoodIn wsX1_readPart (wsV RX1 75 RX8 yX8_fail wsX8_fail) := goodIn_app (goodIn_of _ (by decide +kernel)) ggX1_readPart_X8_fail
theorem dX1_readPart_0 : decode cX1_readPart 0 = .ok (.aload_n 0, 1) := by decide +kernel
theorem dX1_readPart_1 : decode cX1_readPart 1 = .ok (.getfield 19, 3) := by decide +kernel
theorem dX1_readPart_4 : decode cX1_readPart 4 = .ok (.getfield 51, 3) := by decide +kernel
theorem dX1_readPart_7 : decode cX1_readPart 7 = .ok (.tableswitch 102 0 9 #[53, 102, 102, 102, 102, 102, 102, 87, 92, 97], 53) := by decide +kernel
theorem dX1_readPart_60 : decode cX1_readPart 60 = .ok (.aload_n 0, 1) := by decide +kernel
theorem dX1_readPart_61 : decode cX1_readPart 61 = .ok (.invokevirtual 54, 3) := by decide +kernel
theorem dX1_readPart_64 : decode cX1_readPart 64 = .ok (.ifCond .eq 28, 3) := by decide +kernel
theorem dX1_readPart_67 : decode cX1_readPart 67 = .ok (.aload_n 0, 1) := by decide +kernel
theorem dX1_readPart_68 : decode cX1_readPart 68 = .ok (.invokevirtual 57, 3) := by decide +kernel
theorem dX1_readPart_71 : decode cX1_readPart 71 = .ok (.ifCond .eq 21, 3) := by decide +kernel
theorem dX1_readPart_74 : decode cX1_readPart 74 = .ok (.aload_n 0, 1) := by decide +kernel
theorem dX1_readPart_75 : decode cX1_readPart 75 = .ok (.invokevirtual 60, 3) := by decide +kernel
theorem dX1_readPart_78 : decode cX1_readPart 78 = .ok (.ifCond .eq 14, 3) := by decide +kernel
theorem dX1_readPart_81 : decode cX1_readPart 81 = .ok (.aload_n 0, 1) := by decide +kernel
theorem dX1_readPart_82 : decode cX1_readPart 82 = .ok (.invokevirtual 63, 3) := by decide +kernel
theorem dX1_readPart_85 : decode cX1_readPart 85 = .ok (.ifCond .eq 7, 3) := by decide +kernel
theorem dX1_readPart_88 : decode cX1_readPart 88 = .ok (.iconst 1, 1) := by decide +kernel
theorem dX1_readPart_89 : decode cX1_readPart 89 = .ok (.goto 4, 3) := by decide +kernel
theorem dX1_readPart_92 : decode cX1_readPart 92 = .ok (.iconst 0, 1) := by decide +kernel
theorem dX1_readPart_93 : decode cX1_readPart 93 = .ok (.ireturn, 1) := by decide +kernel
theorem dX1_readPart_94 : decode cX1_readPart 94 = .ok (.aload_n 0, 1) := by decide +kernel
theorem dX1_readPart_95 : decode cX1_readPart 95 = .ok (.invokevirtual 66, 3) := by decide +kernel
theorem dX1_readPart_98 : decode cX1_readPart 98 = .ok (.ireturn, 1) := by decide +kernel
theorem dX1_readPart_99 : decode cX1_readPart 99 = .ok (.aload_n 0, 1) := by decide +kernel
theorem dX1_readPart_100 : decode cX1_readPart 100 = .ok (.invokevirtual 69, 3) := by decide +kernel
theorem dX1_readPart_103 : decode cX1_readPart 103 = .ok (.ireturn, 1) := by decide +kernel
theorem dX1_readPart_104 : decode cX1_readPart 104 = .ok (.aload_n 0, 1) := by decide +kernel
theorem dX1_readPart_105 : decode cX1_readPart 105 = .ok (.invokevirtual 72, 3) := by decide +kernel
theorem dX1_readPart_108 : decode cX1_readPart 108 = .ok (.ireturn, 1) := by decide +kernel
theorem dX1_readPart_109 : decode cX1_readPart 109 = .ok (.aload_n 0, 1) := by decide +kernel
theorem dX1_readPart_110 : decode cX1_readPart 110 = .ok (.getfield 19, 3) := by decide +kernel
theorem dX1_readPart_113 : decode cX1_readPart 113 = .ok (.iconst 2, 1) := by decide +kernel
theorem dX1_readPart_114 : decode cX1_readPart 114 = .ok (.invokevirtual 75, 3) := by decide +kernel
theorem dX1_readPart_117 : decode cX1_readPart 117 = .ok (.ireturn, 1) := by decide +kernel
abbrev rmX1_readPart : Room := { frames := 5, cells := 0, slots := 0, locals := 108 }
set_option maxHeartbeats 4000000 in
set_option maxRecDepth 100000 in
theorem kX1_readPart (l : Launch) (D : va_G) (cy : Nat → ClassId) (h0 : Nat) (a0 : Nat → Nat) (a1 : Nat → Nat) (a2 : Nat → Nat) (s0 : Rc) (s1 : Rc) (s2 : Rc) (res : Int32 × Rc × Rc × Rc) (h : fX1_readPart s0 s1 s2 = some res) : CZ l D cy yX1_readPart wsX1_readPart rmX1_readPart [.ref h0] (flat [WX1 cy h0 a0 s0, WX8 cy (a0 0) a1 s1, WX0 cy (a0 1) a2 s2]) (flat [WX1 cy h0 a0 res.2.1, WX8 cy (a0 0) a1 res.2.2.1, WX0 cy (a0 1) a2 res.2.2.2]) res.1 := by
  refine CZ.of (cc := cX1_readPart) (maxL := 1) (by decide) rfl (Nat.le_of_ble_eq_true rfl) ?_
  intro p e s m args below meth c A QQ ls E hr
  obtain ⟨hx, hb, hml, hown, hts, hK, hN, hP, hD, hA, hl⟩ := E
  have hret : ∀ (pc : Nat) (H : Heap) (locs : List Loc) (ls : Array Slot) (u : Int32 × Rc × Rc × Rc), u = res → va_P D vwCl (flat [WX1 cy h0 a0 u.2.1, WX8 cy (a0 0) a1 u.2.2.1, WX0 cy (a0 1) a2 u.2.2.2]) H → va_D A (flat [WX1 cy h0 a0 u.2.1, WX8 cy (a0 0) a1 u.2.2.1, WX0 cy (a0 1) a2 u.2.2.2]) → va_S A s.heap H locs → isb u.1 = true → decode cX1_readPart pc = .ok (.ireturn, 1) → W p l e rmX1_readPart s m args below meth c H locs 0 0 QQ (F0 m pc ls [.int u.1]) := by
    intro pc H locs ls u hu hP hD hS hz hd; subst hu; exact hr pc H locs ls _ rfl hP hD hS hz hd
  clear hr
  have hl : lv_has ls 1 [(0, .ref h0)] := hl
  have hinX1 : ∀ w ∈ wsX10, w ∈ wsX1_readPart := fun _ h => List.mem_cons_of_mem _ (List.mem_append_left _ (List.mem_append_left _ (List.mem_append_right _ h)))
  have hinX8 : ∀ w ∈ wsX80, w ∈ wsX1_readPart := fun _ h => List.mem_cons_of_mem _ (List.mem_append_left _ (List.mem_append_right _ h))
  unfold fX1_readPart at h
  suffices key : ∀ (H : Heap) (locs : List Loc), va_P D vwCl (flat [WX1 cy h0 a0 s0, WX8 cy (a0 0) a1 s1, WX0 cy (a0 1) a2 s2]) H → va_S A s.heap H locs → W p l e rmX1_readPart s m args below meth c H locs 0 0 QQ (F0 m 0 ls []) from key _ _ hP va_S.rf
  clear hP
  intro H locs hP hS
  refine lv_aload_n hx hb dX1_readPart_0 rfl (lv_at hl 0 rfl) ?_
  refine va_get (D := D) (ci := 1) (v := .ref (a0 0)) (C := RX1) (T := TX1) (N := 4) hx hb hts hinX1 hown hK hP 0 rfl rfl 0 (by decide) (hts (.fieldLink RX1 19 "KneeBench$BenchText" "tokens" "LKneeBench$Tokens;") (List.mem_of_getElem? (i := 1) rfl)) (fun _ h9 => h9) rfl dX1_readPart_1 ?_
  refine va_getN (D := D) (ci := 8) (v := .int (gi s1 8)) (C := RX8) (T := TX8) (N := 14) hx hb hts hinX8 hown hK hP 1 rfl rfl 8 (by decide) (NW.fld hN 47 rfl _) (fun _ h9 => h9) rfl dX1_readPart_4 ?_
  by_cases c1 : (gi s1 8) = (0 : Int32)
  · replace h := (if_pos c1).symm.trans h
    refine lv_tableIn (tgt := 60) hx hb dX1_readPart_7 (by rw [c1]; decide) (by rw [c1]; decide) (by rw [c1]; rfl) (by decide) ?_
    refine lv_aload_n hx hb dX1_readPart_60 rfl (lv_at hl 0 rfl) ?_
    obtain ⟨r2, hr2, h⟩ := bd_elim h
    refine ca_z (w' := [WX1 cy h0 a0 r2.2.1, WX8 cy (a0 0) a1 r2.2.2.1, WX0 cy (a0 1) a2 r2.2.2.2]) (rn_V (As := []) (rest := []) ⟨hx, hb, hml, hown, hts⟩ (kX1_readNewcomer l D cy h0 a0 a1 a2 s0 s1 s2 r2 hr2 H.size) (cwV 0 hts gX1_readPart_X1_readNewcomer rfl rfl rfl (by decide +kernel) ⟨Nat.le_of_ble_eq_true rfl, Nat.le_of_ble_eq_true rfl⟩) hK hN hP hD [0, 1, 2] rfl rfl (ci := 1) (q0 := 0) rfl rfl rfl rfl hl.1 rfl (Nat.le_of_ble_eq_true rfl) dX1_readPart_61 ⟨Nat.le_refl 0, Nat.le_refl 0⟩) hP hD hS hA [0, 1, 2] ⟨rfl, rfl, rfl, rfl⟩ (fun b3 H locs hP hD hS => ?_)
    refine lv_if_eq (tgt := 92) hx hb dX1_readPart_64 (by decide) (fun c4 => ?_) (fun c4 => ?_)
    · replace h := (if_pos c4).symm.trans h
      refine lv_iconst (v := 0) hx hb dX1_readPart_92 (by decide) ?_
      exact hret 93 H locs ls ((0 : Int32), r2.2.1, r2.2.2.1, r2.2.2.2) (Option.some.inj h) hP hD hS (show isb (0 : Int32) = true by decide) dX1_readPart_93
    · replace h := (if_neg c4).symm.trans h
      refine lv_aload_n hx hb dX1_readPart_67 rfl (lv_at hl 0 rfl) ?_
      obtain ⟨r5, hr5, h⟩ := bd_elim h
      refine ca_z (w' := [WX1 cy h0 a0 r2.2.1, WX8 cy (a0 0) a1 r5.2.1, WX0 cy (a0 1) a2 r5.2.2]) (rn_V (As := []) (rest := []) ⟨hx, hb, hml, hown, hts⟩ (kX1_readLag l D cy h0 a0 a1 a2 r2.2.1 r2.2.2.1 r2.2.2.2 r5 hr5 H.size) (cwV 0 hts gX1_readPart_X1_readLag rfl rfl rfl (by decide +kernel) ⟨Nat.le_of_ble_eq_true rfl, Nat.le_of_ble_eq_true rfl⟩) hK hN hP hD [0, 1, 2] rfl rfl (ci := 1) (q0 := 0) rfl rfl rfl rfl hl.1 rfl (Nat.le_of_ble_eq_true rfl) dX1_readPart_68 ⟨Nat.le_refl 0, Nat.le_refl 0⟩) hP hD hS hA [0, 1, 2] ⟨rfl, rfl, rfl, rfl⟩ (fun b6 H locs hP hD hS => ?_)
      refine lv_if_eq (tgt := 92) hx hb dX1_readPart_71 (by decide) (fun c7 => ?_) (fun c7 => ?_)
      · replace h := (if_pos c7).symm.trans h
        refine lv_iconst (v := 0) hx hb dX1_readPart_92 (by decide) ?_
        exact hret 93 H locs ls ((0 : Int32), r2.2.1, r5.2.1, r5.2.2) (Option.some.inj h) hP hD hS (show isb (0 : Int32) = true by decide) dX1_readPart_93
      · replace h := (if_neg c7).symm.trans h
        refine lv_aload_n hx hb dX1_readPart_74 rfl (lv_at hl 0 rfl) ?_
        obtain ⟨r8, hr8, h⟩ := bd_elim h
        refine ca_z (w' := [WX1 cy h0 a0 r2.2.1, WX8 cy (a0 0) a1 r8.2.1, WX0 cy (a0 1) a2 r8.2.2]) (rn_V (As := []) (rest := []) ⟨hx, hb, hml, hown, hts⟩ (kX1_readKnee l D cy h0 a0 a1 a2 r2.2.1 r5.2.1 r5.2.2 r8 hr8 H.size) (cwV 0 hts gX1_readPart_X1_readKnee rfl rfl rfl (by decide +kernel) ⟨Nat.le_of_ble_eq_true rfl, Nat.le_of_ble_eq_true rfl⟩) hK hN hP hD [0, 1, 2] rfl rfl (ci := 1) (q0 := 0) rfl rfl rfl rfl hl.1 rfl (Nat.le_of_ble_eq_true rfl) dX1_readPart_75 ⟨Nat.le_refl 0, Nat.le_refl 0⟩) hP hD hS hA [0, 1, 2] ⟨rfl, rfl, rfl, rfl⟩ (fun b9 H locs hP hD hS => ?_)
        refine lv_if_eq (tgt := 92) hx hb dX1_readPart_78 (by decide) (fun c10 => ?_) (fun c10 => ?_)
        · replace h := (if_pos c10).symm.trans h
          refine lv_iconst (v := 0) hx hb dX1_readPart_92 (by decide) ?_
          exact hret 93 H locs ls ((0 : Int32), r2.2.1, r8.2.1, r8.2.2) (Option.some.inj h) hP hD hS (show isb (0 : Int32) = true by decide) dX1_readPart_93
        · replace h := (if_neg c10).symm.trans h
          refine lv_aload_n hx hb dX1_readPart_81 rfl (lv_at hl 0 rfl) ?_
          obtain ⟨r11, hr11, h⟩ := bd_elim h
          refine ca_z (w' := [WX1 cy h0 a0 r2.2.1, WX8 cy (a0 0) a1 r11.2.1, WX0 cy (a0 1) a2 r11.2.2]) (rn_V (As := []) (rest := []) ⟨hx, hb, hml, hown, hts⟩ (kX1_readCure l D cy h0 a0 a1 a2 r2.2.1 r8.2.1 r8.2.2 r11 hr11 H.size) (cwV 0 hts gX1_readPart_X1_readCure rfl rfl rfl (by decide +kernel) ⟨Nat.le_of_ble_eq_true rfl, Nat.le_of_ble_eq_true rfl⟩) hK hN hP hD [0, 1, 2] rfl rfl (ci := 1) (q0 := 0) rfl rfl rfl rfl hl.1 rfl (Nat.le_of_ble_eq_true rfl) dX1_readPart_82 ⟨Nat.le_refl 0, Nat.le_refl 0⟩) hP hD hS hA [0, 1, 2] ⟨rfl, rfl, rfl, rfl⟩ (fun b12 H locs hP hD hS => ?_)
          refine lv_if_eq (tgt := 92) hx hb dX1_readPart_85 (by decide) (fun c13 => ?_) (fun c13 => ?_)
          · replace h := (if_pos c13).symm.trans h
            refine lv_iconst (v := 0) hx hb dX1_readPart_92 (by decide) ?_
            exact hret 93 H locs ls ((0 : Int32), r2.2.1, r11.2.1, r11.2.2) (Option.some.inj h) hP hD hS (show isb (0 : Int32) = true by decide) dX1_readPart_93
          · replace h := (if_neg c13).symm.trans h
            refine lv_iconst (v := 1) hx hb dX1_readPart_88 (by decide) ?_
            refine lv_goto (tgt := 93) hx hb dX1_readPart_89 (by decide) ?_
            exact hret 93 H locs ls ((1 : Int32), r2.2.1, r11.2.1, r11.2.2) (Option.some.inj h) hP hD hS (show isb (1 : Int32) = true by decide) dX1_readPart_93
  replace h := (if_neg c1).symm.trans h
  by_cases c14 : (gi s1 8) = (7 : Int32)
  · replace h := (if_pos c14).symm.trans h
    refine lv_tableIn (tgt := 94) hx hb dX1_readPart_7 (by rw [c14]; decide) (by rw [c14]; decide) (by rw [c14]; rfl) (by decide) ?_
    refine lv_aload_n hx hb dX1_readPart_94 rfl (lv_at hl 0 rfl) ?_
    obtain ⟨r15, hr15, h⟩ := bd_elim h
    refine ca_z (w' := [WX1 cy h0 a0 s0, WX8 cy (a0 0) a1 r15.2.1, WX0 cy (a0 1) a2 r15.2.2]) (rn_V (As := []) (rest := []) ⟨hx, hb, hml, hown, hts⟩ (kX1_readDislikes l D cy h0 a0 a1 a2 s0 s1 s2 r15 hr15 H.size) (cwV 0 hts gX1_readPart_X1_readDislikes rfl rfl rfl (by decide +kernel) ⟨Nat.le_of_ble_eq_true rfl, Nat.le_of_ble_eq_true rfl⟩) hK hN hP hD [0, 1, 2] rfl rfl (ci := 1) (q0 := 0) rfl rfl rfl rfl hl.1 rfl (Nat.le_of_ble_eq_true rfl) dX1_readPart_95 ⟨Nat.le_refl 0, Nat.le_refl 0⟩) hP hD hS hA [0, 1, 2] ⟨rfl, rfl, rfl, rfl⟩ (fun b16 H locs hP hD hS => ?_)
    exact hret 98 H locs ls (r15.1, s0, r15.2.1, r15.2.2) (Option.some.inj h) hP hD hS b16 dX1_readPart_98
  replace h := (if_neg c14).symm.trans h
  by_cases c17 : (gi s1 8) = (8 : Int32)
  · replace h := (if_pos c17).symm.trans h
    refine lv_tableIn (tgt := 99) hx hb dX1_readPart_7 (by rw [c17]; decide) (by rw [c17]; decide) (by rw [c17]; rfl) (by decide) ?_
    refine lv_aload_n hx hb dX1_readPart_99 rfl (lv_at hl 0 rfl) ?_
    obtain ⟨r18, hr18, h⟩ := bd_elim h
    refine ca_z (w' := [WX1 cy h0 a0 s0, WX8 cy (a0 0) a1 r18.2.1, WX0 cy (a0 1) a2 r18.2.2]) (rn_V (As := []) (rest := []) ⟨hx, hb, hml, hown, hts⟩ (kX1_readWeather l D cy h0 a0 a1 a2 s0 s1 s2 r18 hr18 H.size) (cwV 0 hts gX1_readPart_X1_readWeather rfl rfl rfl (by decide +kernel) ⟨Nat.le_of_ble_eq_true rfl, Nat.le_of_ble_eq_true rfl⟩) hK hN hP hD [0, 1, 2] rfl rfl (ci := 1) (q0 := 0) rfl rfl rfl rfl hl.1 rfl (Nat.le_of_ble_eq_true rfl) dX1_readPart_100 ⟨Nat.le_refl 0, Nat.le_refl 0⟩) hP hD hS hA [0, 1, 2] ⟨rfl, rfl, rfl, rfl⟩ (fun b19 H locs hP hD hS => ?_)
    exact hret 103 H locs ls (r18.1, s0, r18.2.1, r18.2.2) (Option.some.inj h) hP hD hS b19 dX1_readPart_103
  replace h := (if_neg c17).symm.trans h
  by_cases c20 : (gi s1 8) = (9 : Int32)
  · replace h := (if_pos c20).symm.trans h
    refine lv_tableIn (tgt := 104) hx hb dX1_readPart_7 (by rw [c20]; decide) (by rw [c20]; decide) (by rw [c20]; rfl) (by decide) ?_
    refine lv_aload_n hx hb dX1_readPart_104 rfl (lv_at hl 0 rfl) ?_
    obtain ⟨r21, hr21, h⟩ := bd_elim h
    refine ca_z (w' := [WX1 cy h0 a0 r21.2.1, WX8 cy (a0 0) a1 r21.2.2.1, WX0 cy (a0 1) a2 r21.2.2.2]) (rn_V (As := []) (rest := []) ⟨hx, hb, hml, hown, hts⟩ (kX1_readVote l D cy h0 a0 a1 a2 s0 s1 s2 r21 hr21 H.size) (cwV 0 hts gX1_readPart_X1_readVote rfl rfl rfl (by decide +kernel) ⟨Nat.le_of_ble_eq_true rfl, Nat.le_of_ble_eq_true rfl⟩) hK hN hP hD [0, 1, 2] rfl rfl (ci := 1) (q0 := 0) rfl rfl rfl rfl hl.1 rfl (Nat.le_of_ble_eq_true rfl) dX1_readPart_105 ⟨Nat.le_refl 0, Nat.le_refl 0⟩) hP hD hS hA [0, 1, 2] ⟨rfl, rfl, rfl, rfl⟩ (fun b22 H locs hP hD hS => ?_)
    exact hret 108 H locs ls (r21.1, r21.2.1, r21.2.2.1, r21.2.2.2) (Option.some.inj h) hP hD hS b22 dX1_readPart_108
  replace h := (if_neg c20).symm.trans h
  have ic1 : (gi s1 8).toInt ≠ 0 := fun z => c1 (Int32.toInt_inj.mp (z.trans (by decide)))
  have ic14 : (gi s1 8).toInt ≠ 7 := fun z => c14 (Int32.toInt_inj.mp (z.trans (by decide)))
  have ic17 : (gi s1 8).toInt ≠ 8 := fun z => c17 (Int32.toInt_inj.mp (z.trans (by decide)))
  have ic20 : (gi s1 8).toInt ≠ 9 := fun z => c20 (Int32.toInt_inj.mp (z.trans (by decide)))
  have hsw : (gi s1 8).toInt < 0 ∨ 9 < (gi s1 8).toInt ∨ (gi s1 8).toInt = 1 ∨ (gi s1 8).toInt = 2 ∨ (gi s1 8).toInt = 3 ∨ (gi s1 8).toInt = 4 ∨ (gi s1 8).toInt = 5 ∨ (gi s1 8).toInt = 6 := by omega
  refine lv_tdf (tgt := 109) hx hb dX1_readPart_7 ?_ (by decide) ?_
  · rcases hsw with z | z | z | z | z | z | z | z
    · exact Or.inl z
    · exact Or.inr (Or.inl z)
    · exact Or.inr (Or.inr (by rw [z]; rfl))
    · exact Or.inr (Or.inr (by rw [z]; rfl))
    · exact Or.inr (Or.inr (by rw [z]; rfl))
    · exact Or.inr (Or.inr (by rw [z]; rfl))
    · exact Or.inr (Or.inr (by rw [z]; rfl))
    · exact Or.inr (Or.inr (by rw [z]; rfl))
  refine lv_aload_n hx hb dX1_readPart_109 rfl (lv_at hl 0 rfl) ?_
  refine va_get (D := D) (ci := 1) (v := .ref (a0 0)) (C := RX1) (T := TX1) (N := 4) hx hb hts hinX1 hown hK hP 0 rfl rfl 0 (by decide) (hts (.fieldLink RX1 19 "KneeBench$BenchText" "tokens" "LKneeBench$Tokens;") (List.mem_of_getElem? (i := 1) rfl)) (fun _ h9 => h9) rfl dX1_readPart_110 ?_
  refine lv_iconst (v := 2) hx hb dX1_readPart_113 (by decide) ?_
  obtain ⟨r23, hr23, h⟩ := lt_elim h
  refine ca_z (w' := [WX1 cy h0 a0 s0, WX8 cy (a0 0) a1 r23.2, WX0 cy (a0 1) a2 s2]) (rn_V (As := [.int (2 : Int32)]) (rest := []) ⟨hx, hb, hml, hown, hts⟩ (kX8_fail l D cy (a0 0) a1 s1 (2 : Int32) r23 hr23.symm H.size) (cwV 1 hts gX1_readPart_X8_fail rfl rfl rfl (by decide +kernel) ⟨Nat.le_of_ble_eq_true rfl, Nat.le_of_ble_eq_true rfl⟩) hK hN hP hD [1] rfl rfl (ci := 8) (q0 := 1) rfl rfl rfl rfl hl.1 rfl (Nat.le_of_ble_eq_true rfl) dX1_readPart_114 ⟨Nat.le_refl 0, Nat.le_refl 0⟩) hP hD hS hA [1] ⟨rfl, rfl, rfl, rfl⟩ (fun b24 H locs hP hD hS => ?_)
  exact hret 117 H locs ls (r23.1, s0, r23.2, s2) (Option.some.inj h) hP hD hS b24 dX1_readPart_117
theorem dX8_isSign_0 : decode cX8_isSign 0 = .ok (.aload_n 0, 1) := by decide +kernel
theorem dX8_isSign_1 : decode cX8_isSign 1 = .ok (.getfield 32, 3) := by decide +kernel
theorem dX8_isSign_4 : decode cX8_isSign 4 = .ok (.iconst 3, 1) := by decide +kernel
theorem dX8_isSign_5 : decode cX8_isSign 5 = .ok (.if_icmp .ne 15, 3) := by decide +kernel
theorem dX8_isSign_8 : decode cX8_isSign 8 = .ok (.aload_n 0, 1) := by decide +kernel
theorem dX8_isSign_9 : decode cX8_isSign 9 = .ok (.getfield 44, 3) := by decide +kernel
theorem dX8_isSign_12 : decode cX8_isSign 12 = .ok (.iload_n 1, 1) := by decide +kernel
theorem dX8_isSign_13 : decode cX8_isSign 13 = .ok (.if_icmp .ne 7, 3) := by decide +kernel
theorem dX8_isSign_16 : decode cX8_isSign 16 = .ok (.iconst 1, 1) := by decide +kernel
theorem dX8_isSign_17 : decode cX8_isSign 17 = .ok (.goto 4, 3) := by decide +kernel
theorem dX8_isSign_20 : decode cX8_isSign 20 = .ok (.iconst 0, 1) := by decide +kernel
theorem dX8_isSign_21 : decode cX8_isSign 21 = .ok (.ireturn, 1) := by decide +kernel
abbrev rmX8_isSign : Room := { frames := 0, cells := 0, slots := 0, locals := 0 }
set_option maxHeartbeats 4000000 in
set_option maxRecDepth 100000 in
theorem kX8_isSign (l : Launch) (D : va_G) (cy : Nat → ClassId) (h0 : Nat) (a0 : Nat → Nat) (s0 : Rc) (p1 : Int32) (res : Int32) (h : fX8_isSign p1 s0 = res) : CZ l D cy yX8_isSign wsX8_isSign rmX8_isSign [.ref h0, .int p1] (flat [WX8 cy h0 a0 s0]) (flat [WX8 cy h0 a0 s0]) res := by
  refine CZ.of (cc := cX8_isSign) (maxL := 2) (by decide) rfl (Nat.le_of_ble_eq_true rfl) ?_
  intro p e s m args below meth c A QQ ls E hr
  obtain ⟨hx, hb, hml, hown, hts, hK, hN, hP, hD, hA, hl⟩ := E
  have hret : ∀ (pc : Nat) (H : Heap) (locs : List Loc) (ls : Array Slot) (u : Int32), u = res → va_P D vwCl (flat [WX8 cy h0 a0 s0]) H → va_D A (flat [WX8 cy h0 a0 s0]) → va_S A s.heap H locs → isb u = true → decode cX8_isSign pc = .ok (.ireturn, 1) → W p l e rmX8_isSign s m args below meth c H locs 0 0 QQ (F0 m pc ls [.int u]) := by
    intro pc H locs ls u hu hP hD hS hz hd; subst hu; exact hr pc H locs ls _ rfl hP hD hS hz hd
  clear hr
  have hl : lv_has ls 2 [(0, .ref h0), (1, .int p1)] := hl
  have hinX8 : ∀ w ∈ wsX80, w ∈ wsX8_isSign := fun _ h => List.mem_cons_of_mem _ (List.mem_append_right _ h)
  unfold fX8_isSign at h
  suffices key : ∀ (H : Heap) (locs : List Loc), va_P D vwCl (flat [WX8 cy h0 a0 s0]) H → va_S A s.heap H locs → W p l e rmX8_isSign s m args below meth c H locs 0 0 QQ (F0 m 0 ls []) from key _ _ hP va_S.rf
  clear hP
  intro H locs hP hS
  refine lv_aload_n hx hb dX8_isSign_0 rfl (lv_at hl 0 rfl) ?_
  refine va_get (D := D) (ci := 8) (v := .int (gi s0 6)) (C := RX8) (T := TX8) (N := 14) hx hb hts hinX8 hown hK hP 0 rfl rfl 6 (by decide) (hts (.fieldLink RX8 32 "KneeBench$Tokens" "kind" "I") (List.mem_of_getElem? (i := 1) rfl)) (fun _ h9 => h9) rfl dX8_isSign_1 ?_
  refine lv_iconst (v := 3) hx hb dX8_isSign_4 (by decide) ?_
  refine lv_icmp_ne (tgt := 20) hx hb dX8_isSign_5 (by decide) (fun c1 => ?_) (fun c1 => ?_)
  · replace h := (if_neg c1).symm.trans h
    refine lv_iconst (v := 0) hx hb dX8_isSign_20 (by decide) ?_
    exact hret 21 H locs ls (0 : Int32) h hP hD hS (show isb (0 : Int32) = true by decide) dX8_isSign_21
  · replace h := (if_pos c1).symm.trans h
    refine lv_aload_n hx hb dX8_isSign_8 rfl (lv_at hl 0 rfl) ?_
    refine va_get (D := D) (ci := 8) (v := .int (gi s0 9)) (C := RX8) (T := TX8) (N := 14) hx hb hts hinX8 hown hK hP 0 rfl rfl 9 (by decide) (hts (.fieldLink RX8 44 "KneeBench$Tokens" "value" "I") (List.mem_of_getElem? (i := 2) rfl)) (fun _ h9 => h9) rfl dX8_isSign_9 ?_
    refine lv_iload_n hx hb dX8_isSign_12 rfl (lv_at hl 1 rfl) ?_
    refine lv_icmp_ne (tgt := 20) hx hb dX8_isSign_13 (by decide) (fun c2 => ?_) (fun c2 => ?_)
    · replace h := (if_neg c2).symm.trans h
      refine lv_iconst (v := 0) hx hb dX8_isSign_20 (by decide) ?_
      exact hret 21 H locs ls (0 : Int32) h hP hD hS (show isb (0 : Int32) = true by decide) dX8_isSign_21
    · replace h := (if_pos c2).symm.trans h
      refine lv_iconst (v := 1) hx hb dX8_isSign_16 (by decide) ?_
      refine lv_goto (tgt := 21) hx hb dX8_isSign_17 (by decide) ?_
      exact hret 21 H locs ls (1 : Int32) h hP hD hS (show isb (1 : Int32) = true by decide) dX8_isSign_21
set_option maxRecDepth 20000 in
theorem ggX8_passSign_X8_isSign : GoodIn wsX8_passSign wsX8_isSign := goodIn_r _ [5, 6, 7, 40, 41, 42, 43, 44, 45, 46, 47, 48, 49, 50, 51, 52, 53] (by decide +kernel) (by decide +kernel)
set_option maxRecDepth 20000 in
theorem gX8_passSign_X8_isSign : GoodIn wsX8_passSign (wsV RX8 92 RX8 yX8_isSign wsX8_isSign) := goodIn_app (goodIn_of _ (by decide +kernel)) ggX8_passSign_X8_isSign
set_option maxRecDepth 20000 in
theorem ggX8_passSign_X8_advance : GoodIn wsX8_passSign wsX8_advance := goodIn_r _ [11, 12, 13, 14, 15, 6, 16, 17, 18, 7, 19, 20, 4, 21, 22, 23, 24, 25, 26, 27, 28, 29, 30, 31, 32, 33, 34, 35, 36, 37, 38, 39, 40, 41, 42, 43, 44, 45, 46, 47, 48, 49, 50, 51, 52, 53] (by decide +kernel) (by decide +kernel)
set_option maxRecDepth 20000 in
theorem gX8_passSign_X8_advance : GoodIn wsX8_passSign (wsV RX8 74 RX8 yX8_advance wsX8_advance) := goodIn_app (goodIn_of _ (by decide +kernel)) ggX8_passSign_X8_advance
set_option maxRecDepth 20000 in
theorem ggX8_passSign_X8_fail : GoodIn wsX8_passSign wsX8_fail := goodIn_r _ [37, 38, 13, 39, 40, 41, 42, 43, 44, 45, 46, 47, 48, 49, 50, 51, 52, 53] (by decide +kernel) (by decide +kernel)
set_option maxRecDepth 20000 in
theorem gX8_passSign_X8_fail : GoodIn wsX8_passSign (wsV RX8 88 RX8 yX8_fail wsX8_fail) := goodIn_app (goodIn_of _ (by decide +kernel)) ggX8_passSign_X8_fail
theorem dX8_passSign_0 : decode cX8_passSign 0 = .ok (.aload_n 0, 1) := by decide +kernel
theorem dX8_passSign_1 : decode cX8_passSign 1 = .ok (.iload_n 1, 1) := by decide +kernel
theorem dX8_passSign_2 : decode cX8_passSign 2 = .ok (.invokevirtual 92, 3) := by decide +kernel
theorem dX8_passSign_5 : decode cX8_passSign 5 = .ok (.ifCond .eq 10, 3) := by decide +kernel
theorem dX8_passSign_8 : decode cX8_passSign 8 = .ok (.aload_n 0, 1) := by decide +kernel
theorem dX8_passSign_9 : decode cX8_passSign 9 = .ok (.invokevirtual 74, 3) := by decide +kernel
theorem dX8_passSign_12 : decode cX8_passSign 12 = .ok (.goto 8, 3) := by decide +kernel
theorem dX8_passSign_15 : decode cX8_passSign 15 = .ok (.aload_n 0, 1) := by decide +kernel
theorem dX8_passSign_16 : decode cX8_passSign 16 = .ok (.iconst 2, 1) := by decide +kernel
theorem dX8_passSign_17 : decode cX8_passSign 17 = .ok (.invokevirtual 88, 3) := by decide +kernel
theorem dX8_passSign_20 : decode cX8_passSign 20 = .ok (.ireturn, 1) := by decide +kernel
abbrev rmX8_passSign : Room := { frames := 3, cells := 0, slots := 0, locals := 65 }
set_option maxHeartbeats 4000000 in
set_option maxRecDepth 100000 in
theorem kX8_passSign (l : Launch) (D : va_G) (cy : Nat → ClassId) (h0 : Nat) (a0 : Nat → Nat) (s0 : Rc) (p1 : Int32) (res : Int32 × Rc) (h : fX8_passSign p1 s0 = some res) : CZ l D cy yX8_passSign wsX8_passSign rmX8_passSign [.ref h0, .int p1] (flat [WX8 cy h0 a0 s0]) (flat [WX8 cy h0 a0 res.2]) res.1 := by
  refine CZ.of (cc := cX8_passSign) (maxL := 2) (by decide) rfl (Nat.le_of_ble_eq_true rfl) ?_
  intro p e s m args below meth c A QQ ls E hr
  obtain ⟨hx, hb, hml, hown, hts, hK, hN, hP, hD, hA, hl⟩ := E
  have hret : ∀ (pc : Nat) (H : Heap) (locs : List Loc) (ls : Array Slot) (u : Int32 × Rc), u = res → va_P D vwCl (flat [WX8 cy h0 a0 u.2]) H → va_D A (flat [WX8 cy h0 a0 u.2]) → va_S A s.heap H locs → isb u.1 = true → decode cX8_passSign pc = .ok (.ireturn, 1) → W p l e rmX8_passSign s m args below meth c H locs 0 0 QQ (F0 m pc ls [.int u.1]) := by
    intro pc H locs ls u hu hP hD hS hz hd; subst hu; exact hr pc H locs ls _ rfl hP hD hS hz hd
  clear hr
  have hl : lv_has ls 2 [(0, .ref h0), (1, .int p1)] := hl
  unfold fX8_passSign at h
  suffices key : ∀ (H : Heap) (locs : List Loc), va_P D vwCl (flat [WX8 cy h0 a0 s0]) H → va_S A s.heap H locs → W p l e rmX8_passSign s m args below meth c H locs 0 0 QQ (F0 m 0 ls []) from key _ _ hP va_S.rf
  clear hP
  intro H locs hP hS
  refine lv_aload_n hx hb dX8_passSign_0 rfl (lv_at hl 0 rfl) ?_
  refine lv_iload_n hx hb dX8_passSign_1 rfl (lv_at hl 1 rfl) ?_
  refine ca_z (w' := [WX8 cy h0 a0 s0]) (rn_V (As := [.int p1]) (rest := []) ⟨hx, hb, hml, hown, hts⟩ (kX8_isSign l D cy h0 a0 s0 p1 _ rfl H.size) (cwV 1 hts gX8_passSign_X8_isSign rfl rfl rfl (by decide +kernel) ⟨Nat.le_of_ble_eq_true rfl, Nat.le_of_ble_eq_true rfl⟩) hK hN hP hD [0] rfl rfl (ci := 8) (q0 := 0) rfl rfl rfl rfl hl.1 rfl (Nat.le_of_ble_eq_true rfl) dX8_passSign_2 ⟨Nat.le_refl 0, Nat.le_refl 0⟩) hP hD hS hA [0] ⟨rfl, rfl, rfl, rfl⟩ (fun b1 H locs hP hD hS => ?_)
  refine lv_if_eq (tgt := 15) hx hb dX8_passSign_5 (by decide) (fun c2 => ?_) (fun c2 => ?_)
  · replace h := (if_pos c2).symm.trans h
    refine lv_aload_n hx hb dX8_passSign_15 rfl (lv_at hl 0 rfl) ?_
    refine lv_iconst (v := 2) hx hb dX8_passSign_16 (by decide) ?_
    obtain ⟨r3, hr3, h⟩ := lt_elim h
    refine ca_z (w' := [WX8 cy h0 a0 r3.2]) (rn_V (As := [.int (2 : Int32)]) (rest := []) ⟨hx, hb, hml, hown, hts⟩ (kX8_fail l D cy h0 a0 s0 (2 : Int32) r3 hr3.symm H.size) (cwV 1 hts gX8_passSign_X8_fail rfl rfl rfl (by decide +kernel) ⟨Nat.le_of_ble_eq_true rfl, Nat.le_of_ble_eq_true rfl⟩) hK hN hP hD [0] rfl rfl (ci := 8) (q0 := 0) rfl rfl rfl rfl hl.1 rfl (Nat.le_of_ble_eq_true rfl) dX8_passSign_17 ⟨Nat.le_refl 0, Nat.le_refl 0⟩) hP hD hS hA [0] ⟨rfl, rfl, rfl, rfl⟩ (fun b4 H locs hP hD hS => ?_)
    exact hret 20 H locs ls (r3.1, r3.2) (Option.some.inj h) hP hD hS b4 dX8_passSign_20
  · replace h := (if_neg c2).symm.trans h
    refine lv_aload_n hx hb dX8_passSign_8 rfl (lv_at hl 0 rfl) ?_
    obtain ⟨r5, hr5, h⟩ := bd_elim h
    refine ca_z (w' := [WX8 cy h0 a0 r5.2]) (rn_V (As := []) (rest := []) ⟨hx, hb, hml, hown, hts⟩ (kX8_advance l D cy h0 a0 s0 r5 hr5 H.size) (cwV 0 hts gX8_passSign_X8_advance rfl rfl rfl (by decide +kernel) ⟨Nat.le_of_ble_eq_true rfl, Nat.le_of_ble_eq_true rfl⟩) hK hN hP hD [0] rfl rfl (ci := 8) (q0 := 0) rfl rfl rfl rfl hl.1 rfl (Nat.le_of_ble_eq_true rfl) dX8_passSign_9 ⟨Nat.le_refl 0, Nat.le_refl 0⟩) hP hD hS hA [0] ⟨rfl, rfl, rfl, rfl⟩ (fun b6 H locs hP hD hS => ?_)
    refine lv_goto (tgt := 20) hx hb dX8_passSign_12 (by decide) ?_
    exact hret 20 H locs ls (r5.1, r5.2) (Option.some.inj h) hP hD hS b6 dX8_passSign_20
set_option maxRecDepth 20000 in
theorem ggX1_isRead_X0_empty : GoodIn wsX1_isRead wsX0_empty := goodIn_r _ [8, 9, 10, 11, 12, 13, 14, 15, 195, 196, 197, 198, 199, 200, 201, 202, 203, 204, 205, 206, 207, 208] (by decide +kernel) (by decide +kernel)
set_option maxRecDepth 20000 in
theorem gX1_isRead_X0_empty : GoodIn wsX1_isRead (wsV RX1 27 RX0 yX0_empty wsX0_empty) := goodIn_app (goodIn_of _ (by decide +kernel)) ggX1_isRead_X0_empty
set_option maxRecDepth 20000 in
theorem ggX1_isRead_X8_begin : GoodIn wsX1_isRead wsX8_begin := goodIn_r _ [20, 21, 22, 23, 24, 25, 26, 27, 19, 28, 29, 30, 31, 32, 33, 34, 35, 36, 37, 38, 39, 40, 41, 42, 43, 44, 45, 46, 47, 48, 49, 50, 51, 52, 53, 54, 209, 210, 211, 212, 213, 214, 215, 216, 217, 218, 219, 220, 221, 222] (by decide +kernel) (by decide +kernel)
set_option maxRecDepth 20000 in
theorem gX1_isRead_X8_begin : GoodIn wsX1_isRead (wsV RX1 32 RX8 yX8_begin wsX8_begin) := goodIn_app (goodIn_of _ (by decide +kernel)) ggX1_isRead_X8_begin
set_option maxRecDepth 20000 in
theorem ggX1_isRead_X8_isAtEnd : GoodIn wsX1_isRead wsX8_isAtEnd := goodIn_r _ [58, 31, 209, 210, 211, 212, 213, 214, 215, 216, 217, 218, 219, 220, 221, 222] (by decide +kernel) (by decide +kernel)
set_option maxRecDepth 20000 in
theorem gX1_isRead_X8_isAtEnd : GoodIn wsX1_isRead (wsV RX1 38 RX8 yX8_isAtEnd wsX8_isAtEnd) := goodIn_app (goodIn_of _ (by decide +kernel)) ggX1_isRead_X8_isAtEnd
set_option maxRecDepth 20000 in
theorem ggX1_isRead_X1_readPart : GoodIn wsX1_isRead wsX1_readPart := goodIn_r _ [63, 3, 64, 65, 66, 62, 67, 1, 68, 69, 52, 53, 19, 54, 23, 29, 24, 70, 26, 27, 28, 22, 21, 30, 31, 32, 33, 34, 35, 36, 37, 38, 39, 40, 41, 42, 43, 44, 45, 46, 47, 48, 49, 50, 51, 71, 72, 73, 74, 75, 76, 77, 7, 78, 9, 79, 80, 81, 82, 83, 84, 85, 86, 87, 25, 88, 89, 90, 91, 92, 93, 94, 95, 96, 97, 98, 99, 100, 101, 102, 103, 104, 105, 106, 107, 108, 109, 110, 111, 112, 113, 114, 115, 116, 117, 118, 119, 120, 121, 122, 123, 124, 125, 15, 126, 127, 128, 129, 130, 131, 132, 133, 134, 135, 136, 137, 138, 139, 140, 141, 142, 12, 11, 13, 143, 144, 145, 146, 147, 148, 149, 150, 2, 191, 192, 193, 194, 209, 210, 211, 212, 213, 214, 215, 216, 217, 218, 219, 220, 221, 222, 195, 196, 197, 198, 199, 200, 201, 202, 203, 204, 205, 206, 207, 208] (by decide +kernel) (by decide +kernel)
set_option maxRecDepth 20000 in
theorem gX1_isRead_X1_readPart : GoodIn wsX1_isRead (wsV RX1 42 RX1 yX1_readPart wsX1_readPart) := goodIn_app (goodIn_of _ (by decide +kernel)) ggX1_isRead_X1_readPart
set_option maxRecDepth 20000 in
theorem ggX1_isRead_X8_passSign : GoodIn wsX1_isRead wsX8_passSign := goodIn_r _ [154, 155, 156, 157, 19, 158, 31, 35, 25, 26, 27, 28, 22, 29, 21, 30, 32, 33, 34, 36, 37, 38, 39, 40, 41, 42, 43, 44, 45, 46, 47, 48, 49, 50, 51, 52, 53, 54, 23, 24, 209, 210, 211, 212, 213, 214, 215, 216, 217, 218, 219, 220, 221, 222] (by decide +kernel) (by decide +kernel)
set_option maxRecDepth 20000 in
theorem gX1_isRead_X8_passSign : GoodIn wsX1_isRead (wsV RX1 45 RX8 yX8_passSign wsX8_passSign) := goodIn_app (goodIn_of _ (by decide +kernel)) ggX1_isRead_X8_passSign
set_option maxRecDepth 20000 in
theorem ggX1_isRead_X0_settle : GoodIn wsX1_isRead wsX0_settle := goodIn_r _ [162, 9, 163, 164, 165, 166, 167, 7, 168, 169, 170, 171, 172, 173, 13, 12, 174, 175, 176, 177, 10, 178, 89, 179, 180, 181, 182, 183, 11, 184, 185, 186, 187, 188, 189, 190, 195, 196, 197, 198, 199, 200, 201, 202, 203, 204, 205, 206, 207, 208] (by decide +kernel) (by decide +kernel)
set_option maxRecDepth 20000 in
theorem gX1_isRead_X0_settle : GoodIn wsX1_isRead (wsV RX1 48 RX0 yX0_settle wsX0_settle) := goodIn_app (goodIn_of _ (by decide +kernel)) ggX1_isRead_X0_settle
theorem dX1_isRead_0 : decode cX1_isRead 0 = .ok (.aload_n 0, 1) := by decide +kernel
theorem dX1_isRead_1 : decode cX1_isRead 1 = .ok (.getfield 23, 3) := by decide +kernel
theorem dX1_isRead_4 : decode cX1_isRead 4 = .ok (.invokevirtual 27, 3) := by decide +kernel
theorem dX1_isRead_7 : decode cX1_isRead 7 = .ok (.aload_n 0, 1) := by decide +kernel
theorem dX1_isRead_8 : decode cX1_isRead 8 = .ok (.iconst 0, 1) := by decide +kernel
theorem dX1_isRead_9 : decode cX1_isRead 9 = .ok (.putfield 15, 3) := by decide +kernel
theorem dX1_isRead_12 : decode cX1_isRead 12 = .ok (.aload_n 0, 1) := by decide +kernel
theorem dX1_isRead_13 : decode cX1_isRead 13 = .ok (.getfield 19, 3) := by decide +kernel
theorem dX1_isRead_16 : decode cX1_isRead 16 = .ok (.iload_n 1, 1) := by decide +kernel
theorem dX1_isRead_17 : decode cX1_isRead 17 = .ok (.invokevirtual 32, 3) := by decide +kernel
theorem dX1_isRead_20 : decode cX1_isRead 20 = .ok (.istore_n 2, 1) := by decide +kernel
theorem dX1_isRead_21 : decode cX1_isRead 21 = .ok (.iconst 0, 1) := by decide +kernel
theorem dX1_isRead_22 : decode cX1_isRead 22 = .ok (.istore_n 3, 1) := by decide +kernel
theorem dX1_isRead_23 : decode cX1_isRead 23 = .ok (.iload_n 3, 1) := by decide +kernel
theorem dX1_isRead_24 : decode cX1_isRead 24 = .ok (.sipush 900, 3) := by decide +kernel
theorem dX1_isRead_27 : decode cX1_isRead 27 = .ok (.if_icmp .ge 48, 3) := by decide +kernel
theorem dX1_isRead_30 : decode cX1_isRead 30 = .ok (.iload_n 2, 1) := by decide +kernel
theorem dX1_isRead_31 : decode cX1_isRead 31 = .ok (.ifCond .eq 44, 3) := by decide +kernel
theorem dX1_isRead_34 : decode cX1_isRead 34 = .ok (.aload_n 0, 1) := by decide +kernel
theorem dX1_isRead_35 : decode cX1_isRead 35 = .ok (.getfield 19, 3) := by decide +kernel
theorem dX1_isRead_38 : decode cX1_isRead 38 = .ok (.invokevirtual 38, 3) := by decide +kernel
theorem dX1_isRead_41 : decode cX1_isRead 41 = .ok (.ifCond .ne 34, 3) := by decide +kernel
theorem dX1_isRead_44 : decode cX1_isRead 44 = .ok (.aload_n 0, 1) := by decide +kernel
theorem dX1_isRead_45 : decode cX1_isRead 45 = .ok (.invokevirtual 42, 3) := by decide +kernel
theorem dX1_isRead_48 : decode cX1_isRead 48 = .ok (.ifCond .eq 19, 3) := by decide +kernel
theorem dX1_isRead_51 : decode cX1_isRead 51 = .ok (.aload_n 0, 1) := by decide +kernel
theorem dX1_isRead_52 : decode cX1_isRead 52 = .ok (.getfield 19, 3) := by decide +kernel
theorem dX1_isRead_55 : decode cX1_isRead 55 = .ok (.bipush 59, 2) := by decide +kernel
theorem dX1_isRead_57 : decode cX1_isRead 57 = .ok (.invokevirtual 45, 3) := by decide +kernel
theorem dX1_isRead_60 : decode cX1_isRead 60 = .ok (.ifCond .eq 7, 3) := by decide +kernel
theorem dX1_isRead_63 : decode cX1_isRead 63 = .ok (.iconst 1, 1) := by decide +kernel
theorem dX1_isRead_64 : decode cX1_isRead 64 = .ok (.goto 4, 3) := by decide +kernel
theorem dX1_isRead_67 : decode cX1_isRead 67 = .ok (.iconst 0, 1) := by decide +kernel
theorem dX1_isRead_68 : decode cX1_isRead 68 = .ok (.istore_n 2, 1) := by decide +kernel
theorem dX1_isRead_69 : decode cX1_isRead 69 = .ok (.iinc 3 1, 3) := by decide +kernel
theorem dX1_isRead_72 : decode cX1_isRead 72 = .ok (.goto (-49), 3) := by decide +kernel
theorem dX1_isRead_75 : decode cX1_isRead 75 = .ok (.iload_n 2, 1) := by decide +kernel
theorem dX1_isRead_76 : decode cX1_isRead 76 = .ok (.ifCond .eq 10, 3) := by decide +kernel
theorem dX1_isRead_79 : decode cX1_isRead 79 = .ok (.aload_n 0, 1) := by decide +kernel
theorem dX1_isRead_80 : decode cX1_isRead 80 = .ok (.getfield 23, 3) := by decide +kernel
theorem dX1_isRead_83 : decode cX1_isRead 83 = .ok (.invokevirtual 48, 3) := by decide +kernel
theorem dX1_isRead_86 : decode cX1_isRead 86 = .ok (.iload_n 2, 1) := by decide +kernel
theorem dX1_isRead_87 : decode cX1_isRead 87 = .ok (.ireturn, 1) := by decide +kernel
abbrev rmX1_isRead : Room := { frames := 6, cells := 0, slots := 0, locals := 128 }
set_option maxHeartbeats 4000000 in
set_option maxRecDepth 100000 in
theorem kX1_isRead (l : Launch) (D : va_G) (cy : Nat → ClassId) (h0 : Nat) (a0 : Nat → Nat) (a1 : Nat → Nat) (a2 : Nat → Nat) (s0 : Rc) (s1 : Rc) (s2 : Rc) (p1 : Int32) (res : Int32 × Rc × Rc × Rc) (h : fX1_isRead p1 s0 s1 s2 = some res) : CZ l D cy yX1_isRead wsX1_isRead rmX1_isRead [.ref h0, .int p1] (flat [WX1 cy h0 a0 s0, WX8 cy (a0 0) a1 s1, WX0 cy (a0 1) a2 s2]) (flat [WX1 cy h0 a0 res.2.1, WX8 cy (a0 0) a1 res.2.2.1, WX0 cy (a0 1) a2 res.2.2.2]) res.1 := by
  refine CZ.of (cc := cX1_isRead) (maxL := 4) (by decide) rfl (Nat.le_of_ble_eq_true rfl) ?_
  intro p e s m args below meth c A QQ ls E hr
  obtain ⟨hx, hb, hml, hown, hts, hK, hN, hP, hD, hA, hl⟩ := E
  have hret : ∀ (pc : Nat) (H : Heap) (locs : List Loc) (ls : Array Slot) (u : Int32 × Rc × Rc × Rc), u = res → va_P D vwCl (flat [WX1 cy h0 a0 u.2.1, WX8 cy (a0 0) a1 u.2.2.1, WX0 cy (a0 1) a2 u.2.2.2]) H → va_D A (flat [WX1 cy h0 a0 u.2.1, WX8 cy (a0 0) a1 u.2.2.1, WX0 cy (a0 1) a2 u.2.2.2]) → va_S A s.heap H locs → isb u.1 = true → decode cX1_isRead pc = .ok (.ireturn, 1) → W p l e rmX1_isRead s m args below meth c H locs 0 0 QQ (F0 m pc ls [.int u.1]) := by
    intro pc H locs ls u hu hP hD hS hz hd; subst hu; exact hr pc H locs ls _ rfl hP hD hS hz hd
  clear hr
  have hl : lv_has ls 4 [(0, .ref h0), (1, .int p1)] := hl
  have hinX1 : ∀ w ∈ wsX10, w ∈ wsX1_isRead := fun _ h => List.mem_cons_of_mem _ (List.mem_append_left _ (List.mem_append_left _ (List.mem_append_right _ h)))
  unfold fX1_isRead at h
  suffices key : ∀ (H : Heap) (locs : List Loc), va_P D vwCl (flat [WX1 cy h0 a0 s0, WX8 cy (a0 0) a1 s1, WX0 cy (a0 1) a2 s2]) H → va_S A s.heap H locs → W p l e rmX1_isRead s m args below meth c H locs 0 0 QQ (F0 m 0 ls []) from key _ _ hP va_S.rf
  clear hP
  intro H locs hP hS
  have J75 : ∀ (y75_2 : Int32) (t75_0 : Rc) (t75_1 : Rc) (t75_2 : Rc) (H : Heap) (locs : List Loc) (ls : Array Slot), lv_has ls 4 [(0, .ref h0), (2, .int y75_2)] → va_P D vwCl (flat [WX1 cy h0 a0 t75_0, WX8 cy (a0 0) a1 t75_1, WX0 cy (a0 1) a2 t75_2]) H → va_D A (flat [WX1 cy h0 a0 t75_0, WX8 cy (a0 0) a1 t75_1, WX0 cy (a0 1) a2 t75_2]) → va_S A s.heap H locs → fX1_isRead_J75 y75_2 t75_0 t75_1 t75_2 = some res → W p l e rmX1_isRead s m args below meth c H locs 0 0 QQ (F0 m 75 ls []) := by
    intro y75_2 t75_0 t75_1 t75_2 H locs ls hl hP hD hS h
    unfold fX1_isRead_J75 at h
    refine lv_iload_n hx hb dX1_isRead_75 rfl (lv_at hl 1 rfl) ?_
    refine lv_if_eq (tgt := 86) hx hb dX1_isRead_76 (by decide) (fun c1 => ?_) (fun c1 => ?_)
    · replace h := (if_pos c1).symm.trans h
      refine lv_iload_n hx hb dX1_isRead_86 rfl (lv_at hl 1 rfl) ?_
      obtain ⟨g2, h⟩ := gd_elim h
      exact hret 87 H locs ls (y75_2, t75_0, t75_1, t75_2) (Option.some.inj h) hP hD hS g2 dX1_isRead_87
    · replace h := (if_neg c1).symm.trans h
      refine lv_aload_n hx hb dX1_isRead_79 rfl (lv_at hl 0 rfl) ?_
      refine va_get (D := D) (ci := 1) (v := .ref (a0 1)) (C := RX1) (T := TX1) (N := 4) hx hb hts hinX1 hown hK hP 0 rfl rfl 1 (by decide) (hts (.fieldLink RX1 23 "KneeBench$BenchText" "draft" "LKneeBench$Bench;") (List.mem_of_getElem? (i := 1) rfl)) (fun _ h9 => h9) rfl dX1_isRead_80 ?_
      obtain ⟨r3, hr3, h⟩ := bd_elim h
      refine ca_v (w' := [WX1 cy h0 a0 t75_0, WX8 cy (a0 0) a1 t75_1, WX0 cy (a0 1) a2 r3]) (rn_V (As := []) (rest := []) ⟨hx, hb, hml, hown, hts⟩ (kX0_settle l D cy (a0 1) a2 t75_2 r3 hr3 H.size) (cwV 0 hts gX1_isRead_X0_settle rfl rfl rfl (by decide +kernel) ⟨Nat.le_of_ble_eq_true rfl, Nat.le_of_ble_eq_true rfl⟩) hK hN hP hD [2] rfl rfl (ci := 0) (q0 := 4) rfl rfl rfl rfl hl.1 rfl (Nat.le_of_ble_eq_true rfl) dX1_isRead_83 ⟨Nat.le_refl 0, Nat.le_refl 0⟩) hP hD hS hA [2] ⟨rfl, rfl, rfl, rfl⟩ (fun H locs hP hD hS => ?_)
      refine lv_iload_n hx hb dX1_isRead_86 rfl (lv_at hl 1 rfl) ?_
      obtain ⟨g4, h⟩ := gd_elim h
      exact hret 87 H locs ls (y75_2, t75_0, t75_1, r3) (Option.some.inj h) hP hD hS g4 dX1_isRead_87
  refine lv_aload_n hx hb dX1_isRead_0 rfl (lv_at hl 0 rfl) ?_
  refine va_get (D := D) (ci := 1) (v := .ref (a0 1)) (C := RX1) (T := TX1) (N := 4) hx hb hts hinX1 hown hK hP 0 rfl rfl 1 (by decide) (hts (.fieldLink RX1 23 "KneeBench$BenchText" "draft" "LKneeBench$Bench;") (List.mem_of_getElem? (i := 1) rfl)) (fun _ h9 => h9) rfl dX1_isRead_1 ?_
  obtain ⟨r5, hr5, h⟩ := bd_elim h
  refine ca_v (w' := [WX1 cy h0 a0 s0, WX8 cy (a0 0) a1 s1, WX0 cy (a0 1) a2 r5]) (rn_V (As := []) (rest := []) ⟨hx, hb, hml, hown, hts⟩ (kX0_empty l D cy (a0 1) a2 s2 r5 hr5 H.size) (cwV 0 hts gX1_isRead_X0_empty rfl rfl rfl (by decide +kernel) ⟨Nat.le_of_ble_eq_true rfl, Nat.le_of_ble_eq_true rfl⟩) hK hN hP hD [2] rfl rfl (ci := 0) (q0 := 4) rfl rfl rfl rfl hl.1 rfl (Nat.le_of_ble_eq_true rfl) dX1_isRead_4 ⟨Nat.le_refl 0, Nat.le_refl 0⟩) hP hD hS hA [2] ⟨rfl, rfl, rfl, rfl⟩ (fun H locs hP hD hS => ?_)
  refine lv_aload_n hx hb dX1_isRead_7 rfl (lv_at hl 0 rfl) ?_
  refine lv_iconst (v := 0) hx hb dX1_isRead_8 (by decide) ?_
  obtain ⟨s0_6, es, h⟩ := lt_elim h
  refine va_put (D := D) (ci := 1) (v := .int (0 : Int32)) (ty := .boolean) (C := RX1) (T := TX1) (N := 4) hx hb hts hinX1 tyX1 tyX1_ok nmX1 hown hK hP hD hS 0 rfl rfl 3 (by decide) (hts (.fieldLink RX1 15 "KneeBench$BenchText" "isVoteTold" "Z") (List.mem_of_getElem? (i := 2) rfl)) (fun _ h9 => h9) rfl (by decide +kernel) (isb_nar (show isb (0 : Int32) = true by decide)) (isb_fit (show isb (0 : Int32) = true by decide)) (Nat.le_of_ble_eq_true rfl) dX1_isRead_9 (fun H locs hP hD hS => ?_)
  have hP : va_P D vwCl (flat [WX1 cy h0 a0 s0_6, WX8 cy (a0 0) a1 s1, WX0 cy (a0 1) a2 r5]) H := by rw [es]; exact hP
  have hD : va_D A (flat [WX1 cy h0 a0 s0_6, WX8 cy (a0 0) a1 s1, WX0 cy (a0 1) a2 r5]) := by rw [es]; exact hD
  clear es
  refine lv_aload_n hx hb dX1_isRead_12 rfl (lv_at hl 0 rfl) ?_
  refine va_get (D := D) (ci := 1) (v := .ref (a0 0)) (C := RX1) (T := TX1) (N := 4) hx hb hts hinX1 hown hK hP 0 rfl rfl 0 (by decide) (hts (.fieldLink RX1 19 "KneeBench$BenchText" "tokens" "LKneeBench$Tokens;") (List.mem_of_getElem? (i := 3) rfl)) (fun _ h9 => h9) rfl dX1_isRead_13 ?_
  refine lv_iload_n hx hb dX1_isRead_16 rfl (lv_at hl 1 rfl) ?_
  obtain ⟨r7, hr7, h⟩ := bd_elim h
  refine ca_z (w' := [WX1 cy h0 a0 s0_6, WX8 cy (a0 0) a1 r7.2, WX0 cy (a0 1) a2 r5]) (rn_V (As := [.int p1]) (rest := []) ⟨hx, hb, hml, hown, hts⟩ (kX8_begin l D cy (a0 0) a1 s1 p1 r7 hr7 H.size) (cwV 1 hts gX1_isRead_X8_begin rfl rfl rfl (by decide +kernel) ⟨Nat.le_of_ble_eq_true rfl, Nat.le_of_ble_eq_true rfl⟩) hK hN hP hD [1] rfl rfl (ci := 8) (q0 := 1) rfl rfl rfl rfl hl.1 rfl (Nat.le_of_ble_eq_true rfl) dX1_isRead_17 ⟨Nat.le_refl 0, Nat.le_refl 0⟩) hP hD hS hA [1] ⟨rfl, rfl, rfl, rfl⟩ (fun b8 H locs hP hD hS => ?_)
  refine lv_istore_n (lv' := [(2, .int r7.1), (0, .ref h0), (1, .int p1)]) hx hb dX1_isRead_20 rfl hl (by decide) rfl (fun ls hl => ?_)
  refine lv_iconst (v := 0) hx hb dX1_isRead_21 (by decide) ?_
  refine lv_istore_n (lv' := [(3, .int (0 : Int32)), (2, .int r7.1), (0, .ref h0), (1, .int p1)]) hx hb dX1_isRead_22 rfl hl (by decide) rfl (fun ls hl => ?_)
  have L23 : ∀ (n : Nat) (q23 : Int32 × Int32 × Rc × Rc × Rc) (o : Int32 × Rc × Rc × Rc), loopO (fX1_isRead_L23) n q23 = some o → ∀ (H : Heap) (locs : List Loc) (ls : Array Slot), lv_has ls 4 [(0, .ref h0), (2, .int q23.1), (3, .int q23.2.1)] → va_P D vwCl (flat [WX1 cy h0 a0 q23.2.2.1, WX8 cy (a0 0) a1 q23.2.2.2.1, WX0 cy (a0 1) a2 q23.2.2.2.2]) H → va_D A (flat [WX1 cy h0 a0 q23.2.2.1, WX8 cy (a0 0) a1 q23.2.2.2.1, WX0 cy (a0 1) a2 q23.2.2.2.2]) → va_S A s.heap H locs → ∀ (kk75 : ∀ (H : Heap) (locs : List Loc) (ls : Array Slot), lv_has ls 4 [(0, .ref h0), (2, .int o.1)] → va_P D vwCl (flat [WX1 cy h0 a0 o.2.1, WX8 cy (a0 0) a1 o.2.2.1, WX0 cy (a0 1) a2 o.2.2.2]) H → va_D A (flat [WX1 cy h0 a0 o.2.1, WX8 cy (a0 0) a1 o.2.2.1, WX0 cy (a0 1) a2 o.2.2.2]) → va_S A s.heap H locs → W p l e rmX1_isRead s m args below meth c H locs 0 0 QQ (F0 m 75 ls [])), W p l e rmX1_isRead s m args below meth c H locs 0 0 QQ (F0 m 23 ls []) := by
    intro n
    induction n with
    | zero => intro q23 o h; exact absurd h (by rw [loopO_zero]; intro z; cases z)
    | succ n ih =>
      intro q23 o h H locs ls hl hP hD hS kk75
      obtain ⟨w, h, hgo, hst⟩ := loopO_elim h
      unfold fX1_isRead_L23 at h
      refine lv_iload_n hx hb dX1_isRead_23 rfl (lv_at hl 2 rfl) ?_
      refine lv_sipush (v := 900) hx hb dX1_isRead_24 (by decide) ?_
      refine lv_icmp_ge (tgt := 75) hx hb dX1_isRead_27 (by decide) (fun c9 => ?_) (fun c9 => ?_)
      · replace h := (if_pos c9).symm.trans h
        have eo := hst _ (Option.some.inj h).symm
        subst eo
        exact kk75 H locs ls (lv_sub hl [0, 1] rfl) hP hD hS
      · replace h := (if_neg c9).symm.trans h
        refine lv_iload_n hx hb dX1_isRead_30 rfl (lv_at hl 1 rfl) ?_
        refine lv_if_eq (tgt := 75) hx hb dX1_isRead_31 (by decide) (fun c10 => ?_) (fun c10 => ?_)
        · replace h := (if_pos c10).symm.trans h
          have eo := hst _ (Option.some.inj h).symm
          subst eo
          exact kk75 H locs ls (lv_sub hl [0, 1] rfl) hP hD hS
        · replace h := (if_neg c10).symm.trans h
          refine lv_aload_n hx hb dX1_isRead_34 rfl (lv_at hl 0 rfl) ?_
          refine va_get (D := D) (ci := 1) (v := .ref (a0 0)) (C := RX1) (T := TX1) (N := 4) hx hb hts hinX1 hown hK hP 0 rfl rfl 0 (by decide) (hts (.fieldLink RX1 19 "KneeBench$BenchText" "tokens" "LKneeBench$Tokens;") (List.mem_of_getElem? (i := 3) rfl)) (fun _ h9 => h9) rfl dX1_isRead_35 ?_
          refine ca_z (w' := [WX1 cy h0 a0 q23.2.2.1, WX8 cy (a0 0) a1 q23.2.2.2.1, WX0 cy (a0 1) a2 q23.2.2.2.2]) (rn_V (As := []) (rest := []) ⟨hx, hb, hml, hown, hts⟩ (kX8_isAtEnd l D cy (a0 0) a1 q23.2.2.2.1 _ rfl H.size) (cwV 0 hts gX1_isRead_X8_isAtEnd rfl rfl rfl (by decide +kernel) ⟨Nat.le_of_ble_eq_true rfl, Nat.le_of_ble_eq_true rfl⟩) hK hN hP hD [1] rfl rfl (ci := 8) (q0 := 1) rfl rfl rfl rfl hl.1 rfl (Nat.le_of_ble_eq_true rfl) dX1_isRead_38 ⟨Nat.le_refl 0, Nat.le_refl 0⟩) hP hD hS hA [1] ⟨rfl, rfl, rfl, rfl⟩ (fun b11 H locs hP hD hS => ?_)
          refine lv_if_ne (tgt := 75) hx hb dX1_isRead_41 (by decide) (fun c12 => ?_) (fun c12 => ?_)
          · replace h := (if_neg c12).symm.trans h
            have eo := hst _ (Option.some.inj h).symm
            subst eo
            exact kk75 H locs ls (lv_sub hl [0, 1] rfl) hP hD hS
          · replace h := (if_pos c12).symm.trans h
            refine lv_aload_n hx hb dX1_isRead_44 rfl (lv_at hl 0 rfl) ?_
            obtain ⟨r13, hr13, h⟩ := bd_elim h
            refine ca_z (w' := [WX1 cy h0 a0 r13.2.1, WX8 cy (a0 0) a1 r13.2.2.1, WX0 cy (a0 1) a2 r13.2.2.2]) (rn_V (As := []) (rest := []) ⟨hx, hb, hml, hown, hts⟩ (kX1_readPart l D cy h0 a0 a1 a2 q23.2.2.1 q23.2.2.2.1 q23.2.2.2.2 r13 hr13 H.size) (cwV 0 hts gX1_isRead_X1_readPart rfl rfl rfl (by decide +kernel) ⟨Nat.le_of_ble_eq_true rfl, Nat.le_of_ble_eq_true rfl⟩) hK hN hP hD [0, 1, 2] rfl rfl (ci := 1) (q0 := 0) rfl rfl rfl rfl hl.1 rfl (Nat.le_of_ble_eq_true rfl) dX1_isRead_45 ⟨Nat.le_refl 0, Nat.le_refl 0⟩) hP hD hS hA [0, 1, 2] ⟨rfl, rfl, rfl, rfl⟩ (fun b14 H locs hP hD hS => ?_)
            refine lv_if_eq (tgt := 67) hx hb dX1_isRead_48 (by decide) (fun c15 => ?_) (fun c15 => ?_)
            · replace h := (if_pos c15).symm.trans h
              refine lv_iconst (v := 0) hx hb dX1_isRead_67 (by decide) ?_
              refine lv_istore_n (lv' := [(2, .int (0 : Int32)), (0, .ref h0), (3, .int q23.2.1)]) hx hb dX1_isRead_68 rfl hl (by decide) rfl (fun ls hl => ?_)
              refine lv_iinc (v := (q23.2.1 + (1 : Int32))) (lv' := [(3, .int (q23.2.1 + (1 : Int32))), (2, .int (0 : Int32)), (0, .ref h0)]) hx hb dX1_isRead_69 hl (k := 2) rfl rfl (by decide) rfl (fun ls hl => ?_)
              refine lv_goto (tgt := 23) hx hb dX1_isRead_72 (by decide) ?_
              exact ih _ o (hgo _ (Option.some.inj h).symm) H locs ls (lv_sub hl [2, 1, 0] rfl) hP hD hS kk75
            · replace h := (if_neg c15).symm.trans h
              refine lv_aload_n hx hb dX1_isRead_51 rfl (lv_at hl 0 rfl) ?_
              refine va_get (D := D) (ci := 1) (v := .ref (a0 0)) (C := RX1) (T := TX1) (N := 4) hx hb hts hinX1 hown hK hP 0 rfl rfl 0 (by decide) (hts (.fieldLink RX1 19 "KneeBench$BenchText" "tokens" "LKneeBench$Tokens;") (List.mem_of_getElem? (i := 3) rfl)) (fun _ h9 => h9) rfl dX1_isRead_52 ?_
              refine lv_bipush (v := 59) hx hb dX1_isRead_55 (by decide) ?_
              obtain ⟨r16, hr16, h⟩ := bd_elim h
              refine ca_z (w' := [WX1 cy h0 a0 r13.2.1, WX8 cy (a0 0) a1 r16.2, WX0 cy (a0 1) a2 r13.2.2.2]) (rn_V (As := [.int (59 : Int32)]) (rest := []) ⟨hx, hb, hml, hown, hts⟩ (kX8_passSign l D cy (a0 0) a1 r13.2.2.1 (59 : Int32) r16 hr16 H.size) (cwV 1 hts gX1_isRead_X8_passSign rfl rfl rfl (by decide +kernel) ⟨Nat.le_of_ble_eq_true rfl, Nat.le_of_ble_eq_true rfl⟩) hK hN hP hD [1] rfl rfl (ci := 8) (q0 := 1) rfl rfl rfl rfl hl.1 rfl (Nat.le_of_ble_eq_true rfl) dX1_isRead_57 ⟨Nat.le_refl 0, Nat.le_refl 0⟩) hP hD hS hA [1] ⟨rfl, rfl, rfl, rfl⟩ (fun b17 H locs hP hD hS => ?_)
              refine lv_if_eq (tgt := 67) hx hb dX1_isRead_60 (by decide) (fun c18 => ?_) (fun c18 => ?_)
              · replace h := (if_pos c18).symm.trans h
                refine lv_iconst (v := 0) hx hb dX1_isRead_67 (by decide) ?_
                refine lv_istore_n (lv' := [(2, .int (0 : Int32)), (0, .ref h0), (3, .int q23.2.1)]) hx hb dX1_isRead_68 rfl hl (by decide) rfl (fun ls hl => ?_)
                refine lv_iinc (v := (q23.2.1 + (1 : Int32))) (lv' := [(3, .int (q23.2.1 + (1 : Int32))), (2, .int (0 : Int32)), (0, .ref h0)]) hx hb dX1_isRead_69 hl (k := 2) rfl rfl (by decide) rfl (fun ls hl => ?_)
                refine lv_goto (tgt := 23) hx hb dX1_isRead_72 (by decide) ?_
                exact ih _ o (hgo _ (Option.some.inj h).symm) H locs ls (lv_sub hl [2, 1, 0] rfl) hP hD hS kk75
              · replace h := (if_neg c18).symm.trans h
                refine lv_iconst (v := 1) hx hb dX1_isRead_63 (by decide) ?_
                refine lv_goto (tgt := 68) hx hb dX1_isRead_64 (by decide) ?_
                refine lv_istore_n (lv' := [(2, .int (1 : Int32)), (0, .ref h0), (3, .int q23.2.1)]) hx hb dX1_isRead_68 rfl hl (by decide) rfl (fun ls hl => ?_)
                refine lv_iinc (v := (q23.2.1 + (1 : Int32))) (lv' := [(3, .int (q23.2.1 + (1 : Int32))), (2, .int (1 : Int32)), (0, .ref h0)]) hx hb dX1_isRead_69 hl (k := 2) rfl rfl (by decide) rfl (fun ls hl => ?_)
                refine lv_goto (tgt := 23) hx hb dX1_isRead_72 (by decide) ?_
                exact ih _ o (hgo _ (Option.some.inj h).symm) H locs ls (lv_sub hl [2, 1, 0] rfl) hP hD hS kk75
  obtain ⟨o23, ho23, h⟩ := bd_elim h
  obtain ⟨n23, hn23⟩ := loopF_some ho23
  refine L23 n23 _ o23 hn23 H locs ls (lv_sub hl [2, 1, 0] rfl) hP hD hS (fun H locs ls hl hP hD hS => ?_)
  exact J75 o23.1 o23.2.1 o23.2.2.1 o23.2.2.2 H locs ls (lv_sub hl [0, 1] rfl) hP hD hS h
theorem dX2_begin_0 : decode cX2_begin 0 = .ok (.aload_n 0, 1) := by decide +kernel
theorem dX2_begin_1 : decode cX2_begin 1 = .ok (.iload_n 1, 1) := by decide +kernel
theorem dX2_begin_2 : decode cX2_begin 2 = .ok (.putfield 9, 3) := by decide +kernel
theorem dX2_begin_5 : decode cX2_begin 5 = .ok (.return_, 1) := by decide +kernel
abbrev rmX2_begin : Room := { frames := 0, cells := 0, slots := 0, locals := 0 }
set_option maxHeartbeats 4000000 in
set_option maxRecDepth 100000 in
theorem kX2_begin (l : Launch) (D : va_G) (cy : Nat → ClassId) (h0 : Nat) (a0 : Nat → Nat) (s0 : Rc) (p1 : Int32) (res : Rc) (h : fX2_begin p1 s0 = res) : CV l D cy yX2_begin wsX2_begin rmX2_begin [.ref h0, .int p1] (flat [WX2 cy h0 a0 s0]) (flat [WX2 cy h0 a0 res]) := by
  refine CV.of (cc := cX2_begin) (maxL := 2) (by decide) rfl (Nat.le_of_ble_eq_true rfl) ?_
  intro p e s m args below meth c A QQ ls E hr
  obtain ⟨hx, hb, hml, hown, hts, hK, hN, hP, hD, hA, hl⟩ := E
  have hret : ∀ (pc : Nat) (H : Heap) (locs : List Loc) (ls : Array Slot) (u : Rc), u = res → va_P D vwCl (flat [WX2 cy h0 a0 u]) H → va_D A (flat [WX2 cy h0 a0 u]) → va_S A s.heap H locs → decode cX2_begin pc = .ok (.return_, 1) → W p l e rmX2_begin s m args below meth c H locs 0 0 QQ (F0 m pc ls []) := by
    intro pc H locs ls u hu hP hD hS hd; subst hu; exact hr pc H locs ls hP hD hS hd
  clear hr
  have hl : lv_has ls 2 [(0, .ref h0), (1, .int p1)] := hl
  have hinX2 : ∀ w ∈ wsX20, w ∈ wsX2_begin := fun _ h => List.mem_cons_of_mem _ (List.mem_append_right _ h)
  unfold fX2_begin at h
  suffices key : ∀ (H : Heap) (locs : List Loc), va_P D vwCl (flat [WX2 cy h0 a0 s0]) H → va_S A s.heap H locs → W p l e rmX2_begin s m args below meth c H locs 0 0 QQ (F0 m 0 ls []) from key _ _ hP va_S.rf
  clear hP
  intro H locs hP hS
  refine lv_aload_n hx hb dX2_begin_0 rfl (lv_at hl 0 rfl) ?_
  refine lv_iload_n hx hb dX2_begin_1 rfl (lv_at hl 1 rfl) ?_
  obtain ⟨s0_1, es, h⟩ := lt_elim h
  refine va_put (D := D) (ci := 2) (v := .int p1) (ty := .int) (C := RX2) (T := TX2) (N := 1) hx hb hts hinX2 tyX2 tyX2_ok nmX2 hown hK hP hD hS 0 rfl rfl 0 (by decide) (hts (.fieldLink RX2 9 "KneeBench$Draws" "s" "I") (List.mem_of_getElem? (i := 1) rfl)) (fun _ h9 => h9) rfl (by decide +kernel) rfl rfl (Nat.le_of_ble_eq_true rfl) dX2_begin_2 (fun H locs hP hD hS => ?_)
  have hP : va_P D vwCl (flat [WX2 cy h0 a0 s0_1]) H := by rw [es]; exact hP
  have hD : va_D A (flat [WX2 cy h0 a0 s0_1]) := by rw [es]; exact hD
  clear es
  exact hret 5 H locs ls s0_1 h hP hD hS dX2_begin_5
set_option maxRecDepth 20000 in
theorem ggX3_addDay_X0_canAddDay : GoodIn wsX3_addDay wsX0_canAddDay := goodIn_r _ [8, 9, 27, 28, 29, 30, 31, 32, 33, 34, 35, 36, 37, 38, 39, 40] (by decide +kernel) (by decide +kernel)
set_option maxRecDepth 20000 in
theorem gX3_addDay_X0_canAddDay : GoodIn wsX3_addDay (wsV RX3 121 RX0 yX0_canAddDay wsX0_canAddDay) := goodIn_app (goodIn_of _ (by decide +kernel)) ggX3_addDay_X0_canAddDay
set_option maxRecDepth 20000 in
theorem ggX3_addDay_X0_addDay : GoodIn wsX3_addDay wsX0_addDay := goodIn_r _ [13, 14, 9, 15, 16, 5, 6, 7, 8, 27, 28, 29, 30, 31, 32, 33, 34, 35, 36, 37, 38, 39, 40] (by decide +kernel) (by decide +kernel)
set_option maxRecDepth 20000 in
theorem gX3_addDay_X0_addDay : GoodIn wsX3_addDay (wsV RX3 125 RX0 yX0_addDay wsX0_addDay) := goodIn_app (goodIn_of _ (by decide +kernel)) ggX3_addDay_X0_addDay
set_option maxRecDepth 20000 in
theorem ggX3_addDay_X10_bit : GoodIn wsX3_addDay wsX10_bit := goodIn_r _ [19] (by decide +kernel) (by decide +kernel)
set_option maxRecDepth 20000 in
theorem gX3_addDay_X10_bit_n52 : GoodIn wsX3_addDay (wsX10_bit) := ggX3_addDay_X10_bit
theorem dX3_addDay_0 : decode cX3_addDay 0 = .ok (.aload_n 1, 1) := by decide +kernel
theorem dX3_addDay_1 : decode cX3_addDay 1 = .ok (.invokevirtual 121, 3) := by decide +kernel
theorem dX3_addDay_4 : decode cX3_addDay 4 = .ok (.ifCond .ne 14, 3) := by decide +kernel
theorem dX3_addDay_7 : decode cX3_addDay 7 = .ok (.aload_n 0, 1) := by decide +kernel
theorem dX3_addDay_8 : decode cX3_addDay 8 = .ok (.dup, 1) := by decide +kernel
theorem dX3_addDay_9 : decode cX3_addDay 9 = .ok (.getfield 26, 3) := by decide +kernel
theorem dX3_addDay_12 : decode cX3_addDay 12 = .ok (.iconst 1, 1) := by decide +kernel
theorem dX3_addDay_13 : decode cX3_addDay 13 = .ok (.iadd, 1) := by decide +kernel
theorem dX3_addDay_14 : decode cX3_addDay 14 = .ok (.putfield 26, 3) := by decide +kernel
theorem dX3_addDay_17 : decode cX3_addDay 17 = .ok (.return_, 1) := by decide +kernel
theorem dX3_addDay_18 : decode cX3_addDay 18 = .ok (.aload_n 1, 1) := by decide +kernel
theorem dX3_addDay_19 : decode cX3_addDay 19 = .ok (.iload_n 2, 1) := by decide +kernel
theorem dX3_addDay_20 : decode cX3_addDay 20 = .ok (.invokevirtual 125, 3) := by decide +kernel
theorem dX3_addDay_23 : decode cX3_addDay 23 = .ok (.aload_n 0, 1) := by decide +kernel
theorem dX3_addDay_24 : decode cX3_addDay 24 = .ok (.dup, 1) := by decide +kernel
theorem dX3_addDay_25 : decode cX3_addDay 25 = .ok (.getfield 29, 3) := by decide +kernel
theorem dX3_addDay_28 : decode cX3_addDay 28 = .ok (.iconst 1, 1) := by decide +kernel
theorem dX3_addDay_29 : decode cX3_addDay 29 = .ok (.iadd, 1) := by decide +kernel
theorem dX3_addDay_30 : decode cX3_addDay 30 = .ok (.putfield 29, 3) := by decide +kernel
theorem dX3_addDay_33 : decode cX3_addDay 33 = .ok (.aload_n 0, 1) := by decide +kernel
theorem dX3_addDay_34 : decode cX3_addDay 34 = .ok (.dup, 1) := by decide +kernel
theorem dX3_addDay_35 : decode cX3_addDay 35 = .ok (.getfield 32, 3) := by decide +kernel
theorem dX3_addDay_38 : decode cX3_addDay 38 = .ok (.iload_n 2, 1) := by decide +kernel
theorem dX3_addDay_39 : decode cX3_addDay 39 = .ok (.ifCond .eq 7, 3) := by decide +kernel
theorem dX3_addDay_42 : decode cX3_addDay 42 = .ok (.iconst 1, 1) := by decide +kernel
theorem dX3_addDay_43 : decode cX3_addDay 43 = .ok (.goto 4, 3) := by decide +kernel
theorem dX3_addDay_46 : decode cX3_addDay 46 = .ok (.iconst 0, 1) := by decide +kernel
theorem dX3_addDay_47 : decode cX3_addDay 47 = .ok (.invokestatic 52, 3) := by decide +kernel
theorem dX3_addDay_50 : decode cX3_addDay 50 = .ok (.iadd, 1) := by decide +kernel
theorem dX3_addDay_51 : decode cX3_addDay 51 = .ok (.putfield 32, 3) := by decide +kernel
theorem dX3_addDay_54 : decode cX3_addDay 54 = .ok (.return_, 1) := by decide +kernel
abbrev rmX3_addDay : Room := { frames := 2, cells := 0, slots := 0, locals := 41 }
set_option maxHeartbeats 4000000 in
set_option maxRecDepth 100000 in
theorem kX3_addDay (l : Launch) (D : va_G) (cy : Nat → ClassId) (h0 : Nat) (h_p1 : Nat) (a0 : Nat → Nat) (a1 : Nat → Nat) (s0 : Rc) (s1 : Rc) (p2 : Int32) (res : Rc × Rc) (h : fX3_addDay p2 s0 s1 = res) : CV l D cy yX3_addDay wsX3_addDay rmX3_addDay [.ref h0, .ref h_p1, .int p2] (flat [WX3 cy h0 a0 s0, WX0 cy h_p1 a1 s1]) (flat [WX3 cy h0 a0 res.1, WX0 cy h_p1 a1 res.2]) := by
  refine CV.of (cc := cX3_addDay) (maxL := 3) (by decide) rfl (Nat.le_of_ble_eq_true rfl) ?_
  intro p e s m args below meth c A QQ ls E hr
  obtain ⟨hx, hb, hml, hown, hts, hK, hN, hP, hD, hA, hl⟩ := E
  have hret : ∀ (pc : Nat) (H : Heap) (locs : List Loc) (ls : Array Slot) (u : Rc × Rc), u = res → va_P D vwCl (flat [WX3 cy h0 a0 u.1, WX0 cy h_p1 a1 u.2]) H → va_D A (flat [WX3 cy h0 a0 u.1, WX0 cy h_p1 a1 u.2]) → va_S A s.heap H locs → decode cX3_addDay pc = .ok (.return_, 1) → W p l e rmX3_addDay s m args below meth c H locs 0 0 QQ (F0 m pc ls []) := by
    intro pc H locs ls u hu hP hD hS hd; subst hu; exact hr pc H locs ls hP hD hS hd
  clear hr
  have hl : lv_has ls 3 [(0, .ref h0), (1, .ref h_p1), (2, .int p2)] := hl
  have hinX3 : ∀ w ∈ wsX30, w ∈ wsX3_addDay := fun _ h => List.mem_cons_of_mem _ (List.mem_append_left _ (List.mem_append_right _ h))
  unfold fX3_addDay at h
  suffices key : ∀ (H : Heap) (locs : List Loc), va_P D vwCl (flat [WX3 cy h0 a0 s0, WX0 cy h_p1 a1 s1]) H → va_S A s.heap H locs → W p l e rmX3_addDay s m args below meth c H locs 0 0 QQ (F0 m 0 ls []) from key _ _ hP va_S.rf
  clear hP
  intro H locs hP hS
  refine lv_aload_n hx hb dX3_addDay_0 rfl (lv_at hl 1 rfl) ?_
  refine ca_z (w' := [WX3 cy h0 a0 s0, WX0 cy h_p1 a1 s1]) (rn_V (As := []) (rest := []) ⟨hx, hb, hml, hown, hts⟩ (kX0_canAddDay l D cy h_p1 a1 s1 _ rfl H.size) (cwV 0 hts gX3_addDay_X0_canAddDay rfl rfl rfl (by decide +kernel) ⟨Nat.le_of_ble_eq_true rfl, Nat.le_of_ble_eq_true rfl⟩) hK hN hP hD [1] rfl rfl (ci := 0) (q0 := 2) rfl rfl rfl rfl hl.1 rfl (Nat.le_of_ble_eq_true rfl) dX3_addDay_1 ⟨Nat.le_refl 0, Nat.le_refl 0⟩) hP hD hS hA [1] ⟨rfl, rfl, rfl, rfl⟩ (fun b1 H locs hP hD hS => ?_)
  refine lv_if_ne (tgt := 18) hx hb dX3_addDay_4 (by decide) (fun c2 => ?_) (fun c2 => ?_)
  · replace h := (if_neg c2).symm.trans h
    refine lv_aload_n hx hb dX3_addDay_18 rfl (lv_at hl 1 rfl) ?_
    refine lv_iload_n hx hb dX3_addDay_19 rfl (lv_at hl 2 rfl) ?_
    obtain ⟨r3, hr3, h⟩ := lt_elim h
    refine ca_v (w' := [WX3 cy h0 a0 s0, WX0 cy h_p1 a1 r3]) (rn_V (As := [.int p2]) (rest := []) ⟨hx, hb, hml, hown, hts⟩ (kX0_addDay l D cy h_p1 a1 s1 p2 r3 hr3.symm H.size) (cwV 1 hts gX3_addDay_X0_addDay rfl rfl rfl (by decide +kernel) ⟨Nat.le_of_ble_eq_true rfl, Nat.le_of_ble_eq_true rfl⟩) hK hN hP hD [1] rfl rfl (ci := 0) (q0 := 2) rfl rfl rfl rfl hl.1 rfl (Nat.le_of_ble_eq_true rfl) dX3_addDay_20 ⟨Nat.le_refl 0, Nat.le_refl 0⟩) hP hD hS hA [1] ⟨rfl, rfl, rfl, rfl⟩ (fun H locs hP hD hS => ?_)
    refine lv_aload_n hx hb dX3_addDay_23 rfl (lv_at hl 0 rfl) ?_
    refine lv_dup hx hb dX3_addDay_24 rfl ?_
    refine va_get (D := D) (ci := 3) (v := .int (gi s0 4)) (C := RX3) (T := TX3) (N := 7) hx hb hts hinX3 hown hK hP 0 rfl rfl 4 (by decide) (hts (.fieldLink RX3 29 "KneeBench$Life" "newDays" "I") (List.mem_of_getElem? (i := 2) rfl)) (fun _ h9 => h9) rfl dX3_addDay_25 ?_
    refine lv_iconst (v := 1) hx hb dX3_addDay_28 (by decide) ?_
    refine lv_iadd hx hb dX3_addDay_29 ?_
    obtain ⟨s0_4, es, h⟩ := lt_elim h
    refine va_put (D := D) (ci := 3) (v := .int ((gi s0 4) + (1 : Int32))) (ty := .int) (C := RX3) (T := TX3) (N := 7) hx hb hts hinX3 tyX3 tyX3_ok nmX3 hown hK hP hD hS 0 rfl rfl 4 (by decide) (hts (.fieldLink RX3 29 "KneeBench$Life" "newDays" "I") (List.mem_of_getElem? (i := 2) rfl)) (fun _ h9 => h9) rfl (by decide +kernel) rfl rfl (Nat.le_of_ble_eq_true rfl) dX3_addDay_30 (fun H locs hP hD hS => ?_)
    have hP : va_P D vwCl (flat [WX3 cy h0 a0 s0_4, WX0 cy h_p1 a1 r3]) H := by rw [es]; exact hP
    have hD : va_D A (flat [WX3 cy h0 a0 s0_4, WX0 cy h_p1 a1 r3]) := by rw [es]; exact hD
    clear es
    refine lv_aload_n hx hb dX3_addDay_33 rfl (lv_at hl 0 rfl) ?_
    refine lv_dup hx hb dX3_addDay_34 rfl ?_
    refine va_get (D := D) (ci := 3) (v := .int (gi s0_4 5)) (C := RX3) (T := TX3) (N := 7) hx hb hts hinX3 hown hK hP 0 rfl rfl 5 (by decide) (hts (.fieldLink RX3 32 "KneeBench$Life" "wetDays" "I") (List.mem_of_getElem? (i := 3) rfl)) (fun _ h9 => h9) rfl dX3_addDay_35 ?_
    refine lv_iload_n hx hb dX3_addDay_38 rfl (lv_at hl 2 rfl) ?_
    refine lv_if_eq (tgt := 46) hx hb dX3_addDay_39 (by decide) (fun c5 => ?_) (fun c5 => ?_)
    · replace h := (if_pos c5).symm.trans h
      refine lv_iconst (v := 0) hx hb dX3_addDay_46 (by decide) ?_
      refine ca_i (w' := [WX3 cy h0 a0 s0_4, WX0 cy h_p1 a1 r3]) (rn_SN (As := [.int (0 : Int32)]) (rest := [.int (gi s0_4 5), .ref h0]) ⟨hx, hb, hml, hown, hts⟩ (kX10_bit l D cy (0 : Int32) _ rfl H.size) ⟨va_cnB 1 hts gX3_addDay_X10_bit_n52 rfl rfl rfl (NW.met hN 15 rfl) (hts (.initialized RX10) (List.mem_of_getElem? (i := 18) rfl)) (by decide +kernel) ⟨Nat.le_of_ble_eq_true rfl, Nat.le_of_ble_eq_true rfl⟩, hts (.static yX10_bit) (List.mem_of_getElem? (i := 17) rfl), trivial⟩ hK hN hP hD [] rfl rfl rfl hl.1 rfl (Nat.le_of_ble_eq_true rfl) dX3_addDay_47 ⟨Nat.le_refl 0, Nat.le_refl 0⟩) hP hD hS hA [] ⟨rfl, rfl, rfl, rfl⟩ (fun H locs hP hD hS => ?_)
      refine lv_iadd hx hb dX3_addDay_50 ?_
      obtain ⟨s0_6, es, h⟩ := lt_elim h
      refine va_put (D := D) (ci := 3) (v := .int ((gi s0_4 5) + (fX10_bit (0 : Int32)))) (ty := .int) (C := RX3) (T := TX3) (N := 7) hx hb hts hinX3 tyX3 tyX3_ok nmX3 hown hK hP hD hS 0 rfl rfl 5 (by decide) (hts (.fieldLink RX3 32 "KneeBench$Life" "wetDays" "I") (List.mem_of_getElem? (i := 3) rfl)) (fun _ h9 => h9) rfl (by decide +kernel) rfl rfl (Nat.le_of_ble_eq_true rfl) dX3_addDay_51 (fun H locs hP hD hS => ?_)
      have hP : va_P D vwCl (flat [WX3 cy h0 a0 s0_6, WX0 cy h_p1 a1 r3]) H := by rw [es]; exact hP
      have hD : va_D A (flat [WX3 cy h0 a0 s0_6, WX0 cy h_p1 a1 r3]) := by rw [es]; exact hD
      clear es
      exact hret 54 H locs ls (s0_6, r3) h hP hD hS dX3_addDay_54
    · replace h := (if_neg c5).symm.trans h
      refine lv_iconst (v := 1) hx hb dX3_addDay_42 (by decide) ?_
      refine lv_goto (tgt := 47) hx hb dX3_addDay_43 (by decide) ?_
      refine ca_i (w' := [WX3 cy h0 a0 s0_4, WX0 cy h_p1 a1 r3]) (rn_SN (As := [.int (1 : Int32)]) (rest := [.int (gi s0_4 5), .ref h0]) ⟨hx, hb, hml, hown, hts⟩ (kX10_bit l D cy (1 : Int32) _ rfl H.size) ⟨va_cnB 1 hts gX3_addDay_X10_bit_n52 rfl rfl rfl (NW.met hN 15 rfl) (hts (.initialized RX10) (List.mem_of_getElem? (i := 18) rfl)) (by decide +kernel) ⟨Nat.le_of_ble_eq_true rfl, Nat.le_of_ble_eq_true rfl⟩, hts (.static yX10_bit) (List.mem_of_getElem? (i := 17) rfl), trivial⟩ hK hN hP hD [] rfl rfl rfl hl.1 rfl (Nat.le_of_ble_eq_true rfl) dX3_addDay_47 ⟨Nat.le_refl 0, Nat.le_refl 0⟩) hP hD hS hA [] ⟨rfl, rfl, rfl, rfl⟩ (fun H locs hP hD hS => ?_)
      refine lv_iadd hx hb dX3_addDay_50 ?_
      obtain ⟨s0_7, es, h⟩ := lt_elim h
      refine va_put (D := D) (ci := 3) (v := .int ((gi s0_4 5) + (fX10_bit (1 : Int32)))) (ty := .int) (C := RX3) (T := TX3) (N := 7) hx hb hts hinX3 tyX3 tyX3_ok nmX3 hown hK hP hD hS 0 rfl rfl 5 (by decide) (hts (.fieldLink RX3 32 "KneeBench$Life" "wetDays" "I") (List.mem_of_getElem? (i := 3) rfl)) (fun _ h9 => h9) rfl (by decide +kernel) rfl rfl (Nat.le_of_ble_eq_true rfl) dX3_addDay_51 (fun H locs hP hD hS => ?_)
      have hP : va_P D vwCl (flat [WX3 cy h0 a0 s0_7, WX0 cy h_p1 a1 r3]) H := by rw [es]; exact hP
      have hD : va_D A (flat [WX3 cy h0 a0 s0_7, WX0 cy h_p1 a1 r3]) := by rw [es]; exact hD
      clear es
      exact hret 54 H locs ls (s0_7, r3) h hP hD hS dX3_addDay_54
  · replace h := (if_pos c2).symm.trans h
    refine lv_aload_n hx hb dX3_addDay_7 rfl (lv_at hl 0 rfl) ?_
    refine lv_dup hx hb dX3_addDay_8 rfl ?_
    refine va_get (D := D) (ci := 3) (v := .int (gi s0 3)) (C := RX3) (T := TX3) (N := 7) hx hb hts hinX3 hown hK hP 0 rfl rfl 3 (by decide) (hts (.fieldLink RX3 26 "KneeBench$Life" "missed" "I") (List.mem_of_getElem? (i := 1) rfl)) (fun _ h9 => h9) rfl dX3_addDay_9 ?_
    refine lv_iconst (v := 1) hx hb dX3_addDay_12 (by decide) ?_
    refine lv_iadd hx hb dX3_addDay_13 ?_
    obtain ⟨s0_8, es, h⟩ := lt_elim h
    refine va_put (D := D) (ci := 3) (v := .int ((gi s0 3) + (1 : Int32))) (ty := .int) (C := RX3) (T := TX3) (N := 7) hx hb hts hinX3 tyX3 tyX3_ok nmX3 hown hK hP hD hS 0 rfl rfl 3 (by decide) (hts (.fieldLink RX3 26 "KneeBench$Life" "missed" "I") (List.mem_of_getElem? (i := 1) rfl)) (fun _ h9 => h9) rfl (by decide +kernel) rfl rfl (Nat.le_of_ble_eq_true rfl) dX3_addDay_14 (fun H locs hP hD hS => ?_)
    have hP : va_P D vwCl (flat [WX3 cy h0 a0 s0_8, WX0 cy h_p1 a1 s1]) H := by rw [es]; exact hP
    have hD : va_D A (flat [WX3 cy h0 a0 s0_8, WX0 cy h_p1 a1 s1]) := by rw [es]; exact hD
    clear es
    exact hret 17 H locs ls (s0_8, s1) h hP hD hS dX3_addDay_17
theorem dX3_compare_0 : decode cX3_compare 0 = .ok (.iload_n 1, 1) := by decide +kernel
theorem dX3_compare_1 : decode cX3_compare 1 = .ok (.lookupswitch 49 #[(60, 27), (62, 38)], 27) := by decide +kernel
theorem dX3_compare_28 : decode cX3_compare 28 = .ok (.iload_n 0, 1) := by decide +kernel
theorem dX3_compare_29 : decode cX3_compare 29 = .ok (.iload_n 2, 1) := by decide +kernel
theorem dX3_compare_30 : decode cX3_compare 30 = .ok (.if_icmp .ge 7, 3) := by decide +kernel
theorem dX3_compare_33 : decode cX3_compare 33 = .ok (.iconst 1, 1) := by decide +kernel
theorem dX3_compare_34 : decode cX3_compare 34 = .ok (.goto 4, 3) := by decide +kernel
theorem dX3_compare_37 : decode cX3_compare 37 = .ok (.iconst 0, 1) := by decide +kernel
theorem dX3_compare_38 : decode cX3_compare 38 = .ok (.ireturn, 1) := by decide +kernel
theorem dX3_compare_39 : decode cX3_compare 39 = .ok (.iload_n 0, 1) := by decide +kernel
theorem dX3_compare_40 : decode cX3_compare 40 = .ok (.iload_n 2, 1) := by decide +kernel
theorem dX3_compare_41 : decode cX3_compare 41 = .ok (.if_icmp .le 7, 3) := by decide +kernel
theorem dX3_compare_44 : decode cX3_compare 44 = .ok (.iconst 1, 1) := by decide +kernel
theorem dX3_compare_45 : decode cX3_compare 45 = .ok (.goto 4, 3) := by decide +kernel
theorem dX3_compare_48 : decode cX3_compare 48 = .ok (.iconst 0, 1) := by decide +kernel
theorem dX3_compare_49 : decode cX3_compare 49 = .ok (.ireturn, 1) := by decide +kernel
theorem dX3_compare_50 : decode cX3_compare 50 = .ok (.iload_n 0, 1) := by decide +kernel
theorem dX3_compare_51 : decode cX3_compare 51 = .ok (.iload_n 2, 1) := by decide +kernel
theorem dX3_compare_52 : decode cX3_compare 52 = .ok (.if_icmp .ne 7, 3) := by decide +kernel
theorem dX3_compare_55 : decode cX3_compare 55 = .ok (.iconst 1, 1) := by decide +kernel
theorem dX3_compare_56 : decode cX3_compare 56 = .ok (.goto 4, 3) := by decide +kernel
theorem dX3_compare_59 : decode cX3_compare 59 = .ok (.iconst 0, 1) := by decide +kernel
theorem dX3_compare_60 : decode cX3_compare 60 = .ok (.ireturn, 1) := by decide +kernel
abbrev rmX3_compare : Room := { frames := 0, cells := 0, slots := 0, locals := 0 }
set_option maxHeartbeats 4000000 in
set_option maxRecDepth 100000 in
theorem kX3_compare (l : Launch) (D : va_G) (cy : Nat → ClassId) (p1 : Int32) (p2 : Int32) (p3 : Int32) (res : Int32) (h : fX3_compare p1 p2 p3 = res) : CZ l D cy yX3_compare wsX3_compare rmX3_compare [.int p1, .int p2, .int p3] (flat []) (flat []) res := by
  refine CZ.of (cc := cX3_compare) (maxL := 3) (by decide) rfl (Nat.le_of_ble_eq_true rfl) ?_
  intro p e s m args below meth c A QQ ls E hr
  obtain ⟨hx, hb, hml, hown, hts, hK, hN, hP, hD, hA, hl⟩ := E
  have hret : ∀ (pc : Nat) (H : Heap) (locs : List Loc) (ls : Array Slot) (u : Int32), u = res → va_P D vwCl (flat []) H → va_D A (flat []) → va_S A s.heap H locs → isb u = true → decode cX3_compare pc = .ok (.ireturn, 1) → W p l e rmX3_compare s m args below meth c H locs 0 0 QQ (F0 m pc ls [.int u]) := by
    intro pc H locs ls u hu hP hD hS hz hd; subst hu; exact hr pc H locs ls _ rfl hP hD hS hz hd
  clear hr
  have hl : lv_has ls 3 [(0, .int p1), (1, .int p2), (2, .int p3)] := hl
  unfold fX3_compare at h
  suffices key : ∀ (H : Heap) (locs : List Loc), va_P D vwCl (flat []) H → va_S A s.heap H locs → W p l e rmX3_compare s m args below meth c H locs 0 0 QQ (F0 m 0 ls []) from key _ _ hP va_S.rf
  clear hP
  intro H locs hP hS
  refine lv_iload_n hx hb dX3_compare_0 rfl (lv_at hl 1 rfl) ?_
  by_cases c1 : p2 = (60 : Int32)
  · replace h := (if_pos c1).symm.trans h
    refine lv_lookup (tgt := 28) (off := 27) hx hb dX3_compare_1 (by decide) (by rw [c1]; rfl) (by decide) ?_
    refine lv_iload_n hx hb dX3_compare_28 rfl (lv_at hl 0 rfl) ?_
    refine lv_iload_n hx hb dX3_compare_29 rfl (lv_at hl 2 rfl) ?_
    refine lv_icmp_ge (tgt := 37) hx hb dX3_compare_30 (by decide) (fun c2 => ?_) (fun c2 => ?_)
    · replace h := (if_pos c2).symm.trans h
      refine lv_iconst (v := 0) hx hb dX3_compare_37 (by decide) ?_
      exact hret 38 H locs ls (0 : Int32) h hP hD hS (show isb (0 : Int32) = true by decide) dX3_compare_38
    · replace h := (if_neg c2).symm.trans h
      refine lv_iconst (v := 1) hx hb dX3_compare_33 (by decide) ?_
      refine lv_goto (tgt := 38) hx hb dX3_compare_34 (by decide) ?_
      exact hret 38 H locs ls (1 : Int32) h hP hD hS (show isb (1 : Int32) = true by decide) dX3_compare_38
  replace h := (if_neg c1).symm.trans h
  by_cases c3 : p2 = (62 : Int32)
  · replace h := (if_pos c3).symm.trans h
    refine lv_lookup (tgt := 39) (off := 38) hx hb dX3_compare_1 (by decide) (by rw [c3]; rfl) (by decide) ?_
    refine lv_iload_n hx hb dX3_compare_39 rfl (lv_at hl 0 rfl) ?_
    refine lv_iload_n hx hb dX3_compare_40 rfl (lv_at hl 2 rfl) ?_
    refine lv_icmp_le (tgt := 48) hx hb dX3_compare_41 (by decide) (fun c4 => ?_) (fun c4 => ?_)
    · replace h := (if_pos c4).symm.trans h
      refine lv_iconst (v := 0) hx hb dX3_compare_48 (by decide) ?_
      exact hret 49 H locs ls (0 : Int32) h hP hD hS (show isb (0 : Int32) = true by decide) dX3_compare_49
    · replace h := (if_neg c4).symm.trans h
      refine lv_iconst (v := 1) hx hb dX3_compare_44 (by decide) ?_
      refine lv_goto (tgt := 49) hx hb dX3_compare_45 (by decide) ?_
      exact hret 49 H locs ls (1 : Int32) h hP hD hS (show isb (1 : Int32) = true by decide) dX3_compare_49
  replace h := (if_neg c3).symm.trans h
  refine lv_lookup (tgt := 50) (off := 49) hx hb dX3_compare_1 (by decide) ((if_neg (fun z => c1 (Int32.toInt_inj.mp (z.symm.trans (by decide))))).trans ((if_neg (fun z => c3 (Int32.toInt_inj.mp (z.symm.trans (by decide))))).trans rfl)) (by decide) ?_
  refine lv_iload_n hx hb dX3_compare_50 rfl (lv_at hl 0 rfl) ?_
  refine lv_iload_n hx hb dX3_compare_51 rfl (lv_at hl 2 rfl) ?_
  refine lv_icmp_ne (tgt := 59) hx hb dX3_compare_52 (by decide) (fun c5 => ?_) (fun c5 => ?_)
  · replace h := (if_neg c5).symm.trans h
    refine lv_iconst (v := 0) hx hb dX3_compare_59 (by decide) ?_
    exact hret 60 H locs ls (0 : Int32) h hP hD hS (show isb (0 : Int32) = true by decide) dX3_compare_60
  · replace h := (if_pos c5).symm.trans h
    refine lv_iconst (v := 1) hx hb dX3_compare_55 (by decide) ?_
    refine lv_goto (tgt := 60) hx hb dX3_compare_56 (by decide) ?_
    exact hret 60 H locs ls (1 : Int32) h hP hD hS (show isb (1 : Int32) = true by decide) dX3_compare_60
set_option maxRecDepth 20000 in
theorem ggX3_lookBack_X0_turn : GoodIn wsX3_lookBack wsX0_turn := goodIn_r _ [6, 7, 52, 53, 54, 55, 56, 57, 58, 59, 60, 61, 62, 63, 64, 65] (by decide +kernel) (by decide +kernel)
set_option maxRecDepth 20000 in
theorem gX3_lookBack_X0_turn : GoodIn wsX3_lookBack (wsV RX3 127 RX0 yX0_turn wsX0_turn) := goodIn_app (goodIn_of _ (by decide +kernel)) ggX3_lookBack_X0_turn
set_option maxRecDepth 20000 in
theorem ggX3_lookBack_X0_learnOf : GoodIn wsX3_lookBack wsX0_learnOf := goodIn_r _ [11, 12, 13, 14, 15, 16, 17, 18, 19, 20, 5, 21, 22, 23, 24, 25, 26, 27, 28, 29, 30, 31, 32, 33, 34, 35, 36, 37, 38, 39, 40, 41, 42, 43, 7, 52, 53, 54, 55, 56, 57, 58, 59, 60, 61, 62, 63, 64, 65] (by decide +kernel) (by decide +kernel)
set_option maxRecDepth 20000 in
theorem gX3_lookBack_X0_learnOf : GoodIn wsX3_lookBack (wsV RX3 131 RX0 yX0_learnOf wsX0_learnOf) := goodIn_app (goodIn_of _ (by decide +kernel)) ggX3_lookBack_X0_learnOf
theorem dX3_lookBack_0 : decode cX3_lookBack 0 = .ok (.aload_n 2, 1) := by decide +kernel
theorem dX3_lookBack_1 : decode cX3_lookBack 1 = .ok (.getfield 67, 3) := by decide +kernel
theorem dX3_lookBack_4 : decode cX3_lookBack 4 = .ok (.iload_n 3, 1) := by decide +kernel
theorem dX3_lookBack_5 : decode cX3_lookBack 5 = .ok (.iaload, 1) := by decide +kernel
theorem dX3_lookBack_6 : decode cX3_lookBack 6 = .ok (.istore 4, 2) := by decide +kernel
theorem dX3_lookBack_8 : decode cX3_lookBack 8 = .ok (.iload 4, 2) := by decide +kernel
theorem dX3_lookBack_10 : decode cX3_lookBack 10 = .ok (.aload_n 1, 1) := by decide +kernel
theorem dX3_lookBack_11 : decode cX3_lookBack 11 = .ok (.getfield 97, 3) := by decide +kernel
theorem dX3_lookBack_14 : decode cX3_lookBack 14 = .ok (.if_icmp .lt 16, 3) := by decide +kernel
theorem dX3_lookBack_17 : decode cX3_lookBack 17 = .ok (.aload_n 0, 1) := by decide +kernel
theorem dX3_lookBack_18 : decode cX3_lookBack 18 = .ok (.dup, 1) := by decide +kernel
theorem dX3_lookBack_19 : decode cX3_lookBack 19 = .ok (.getfield 26, 3) := by decide +kernel
theorem dX3_lookBack_22 : decode cX3_lookBack 22 = .ok (.iconst 1, 1) := by decide +kernel
theorem dX3_lookBack_23 : decode cX3_lookBack 23 = .ok (.iadd, 1) := by decide +kernel
theorem dX3_lookBack_24 : decode cX3_lookBack 24 = .ok (.putfield 26, 3) := by decide +kernel
theorem dX3_lookBack_27 : decode cX3_lookBack 27 = .ok (.goto 36, 3) := by decide +kernel
theorem dX3_lookBack_30 : decode cX3_lookBack 30 = .ok (.aload_n 2, 1) := by decide +kernel
theorem dX3_lookBack_31 : decode cX3_lookBack 31 = .ok (.getfield 49, 3) := by decide +kernel
theorem dX3_lookBack_34 : decode cX3_lookBack 34 = .ok (.iload_n 3, 1) := by decide +kernel
theorem dX3_lookBack_35 : decode cX3_lookBack 35 = .ok (.iaload, 1) := by decide +kernel
theorem dX3_lookBack_36 : decode cX3_lookBack 36 = .ok (.bipush 18, 2) := by decide +kernel
theorem dX3_lookBack_38 : decode cX3_lookBack 38 = .ok (.if_icmp .ne 18, 3) := by decide +kernel
theorem dX3_lookBack_41 : decode cX3_lookBack 41 = .ok (.aload_n 1, 1) := by decide +kernel
theorem dX3_lookBack_42 : decode cX3_lookBack 42 = .ok (.aload_n 2, 1) := by decide +kernel
theorem dX3_lookBack_43 : decode cX3_lookBack 43 = .ok (.getfield 87, 3) := by decide +kernel
theorem dX3_lookBack_46 : decode cX3_lookBack 46 = .ok (.iload_n 3, 1) := by decide +kernel
theorem dX3_lookBack_47 : decode cX3_lookBack 47 = .ok (.iaload, 1) := by decide +kernel
theorem dX3_lookBack_48 : decode cX3_lookBack 48 = .ok (.iload 4, 2) := by decide +kernel
theorem dX3_lookBack_50 : decode cX3_lookBack 50 = .ok (.invokevirtual 127, 3) := by decide +kernel
theorem dX3_lookBack_53 : decode cX3_lookBack 53 = .ok (.goto 10, 3) := by decide +kernel
theorem dX3_lookBack_56 : decode cX3_lookBack 56 = .ok (.aload_n 1, 1) := by decide +kernel
theorem dX3_lookBack_57 : decode cX3_lookBack 57 = .ok (.iload 4, 2) := by decide +kernel
theorem dX3_lookBack_59 : decode cX3_lookBack 59 = .ok (.invokevirtual 131, 3) := by decide +kernel
theorem dX3_lookBack_62 : decode cX3_lookBack 62 = .ok (.pop, 1) := by decide +kernel
theorem dX3_lookBack_63 : decode cX3_lookBack 63 = .ok (.return_, 1) := by decide +kernel
abbrev rmX3_lookBack : Room := { frames := 3, cells := 0, slots := 0, locals := 69 }
set_option maxHeartbeats 4000000 in
set_option maxRecDepth 100000 in
theorem kX3_lookBack (l : Launch) (D : va_G) (cy : Nat → ClassId) (h0 : Nat) (h_p1 : Nat) (h_p2 : Nat) (a0 : Nat → Nat) (a1 : Nat → Nat) (a2 : Nat → Nat) (s0 : Rc) (s1 : Rc) (s2 : Rc) (p3 : Int32) (res : Rc × Rc) (h : fX3_lookBack p3 s0 s1 s2 = some res) : CV l D cy yX3_lookBack wsX3_lookBack rmX3_lookBack [.ref h0, .ref h_p1, .ref h_p2, .int p3] (flat [WX3 cy h0 a0 s0, WX0 cy h_p1 a1 s1, WX5 cy h_p2 a2 s2]) (flat [WX3 cy h0 a0 res.1, WX0 cy h_p1 a1 res.2, WX5 cy h_p2 a2 s2]) := by
  refine CV.of (cc := cX3_lookBack) (maxL := 5) (by decide) rfl (Nat.le_of_ble_eq_true rfl) ?_
  intro p e s m args below meth c A QQ ls E hr
  obtain ⟨hx, hb, hml, hown, hts, hK, hN, hP, hD, hA, hl⟩ := E
  have hret : ∀ (pc : Nat) (H : Heap) (locs : List Loc) (ls : Array Slot) (u : Rc × Rc), u = res → va_P D vwCl (flat [WX3 cy h0 a0 u.1, WX0 cy h_p1 a1 u.2, WX5 cy h_p2 a2 s2]) H → va_D A (flat [WX3 cy h0 a0 u.1, WX0 cy h_p1 a1 u.2, WX5 cy h_p2 a2 s2]) → va_S A s.heap H locs → decode cX3_lookBack pc = .ok (.return_, 1) → W p l e rmX3_lookBack s m args below meth c H locs 0 0 QQ (F0 m pc ls []) := by
    intro pc H locs ls u hu hP hD hS hd; subst hu; exact hr pc H locs ls hP hD hS hd
  clear hr
  have hl : lv_has ls 5 [(0, .ref h0), (1, .ref h_p1), (2, .ref h_p2), (3, .int p3)] := hl
  have hinX0 : ∀ w ∈ wsX00, w ∈ wsX3_lookBack := fun _ h => List.mem_cons_of_mem _ (List.mem_append_left _ (List.mem_append_right _ h))
  have hinX3 : ∀ w ∈ wsX30, w ∈ wsX3_lookBack := fun _ h => List.mem_cons_of_mem _ (List.mem_append_right _ h)
  have hinX5 : ∀ w ∈ wsX50, w ∈ wsX3_lookBack := fun _ h => List.mem_cons_of_mem _ (List.mem_append_left _ (List.mem_append_left _ (List.mem_append_right _ h)))
  unfold fX3_lookBack at h
  suffices key : ∀ (H : Heap) (locs : List Loc), va_P D vwCl (flat [WX3 cy h0 a0 s0, WX0 cy h_p1 a1 s1, WX5 cy h_p2 a2 s2]) H → va_S A s.heap H locs → W p l e rmX3_lookBack s m args below meth c H locs 0 0 QQ (F0 m 0 ls []) from key _ _ hP va_S.rf
  clear hP
  intro H locs hP hS
  refine lv_aload_n hx hb dX3_lookBack_0 rfl (lv_at hl 2 rfl) ?_
  refine va_getN (D := D) (ci := 5) (v := .ref (a2 3)) (C := RX5) (T := TX5) (N := 8) hx hb hts hinX5 hown hK hP 11 rfl rfl 3 (by decide) (NW.fld hN 31 rfl _) (fun _ h9 => h9) rfl dX3_lookBack_1 ?_
  refine lv_iload_n hx hb dX3_lookBack_4 rfl (lv_at hl 3 rfl) ?_
  obtain ⟨g1, h⟩ := gd_elim h
  refine va_iald hx hb hK hP 15 1 rfl rfl (inb_in g1) dX3_lookBack_5 ?_
  refine lv_topi (fun x2 ex2 => ?_)
  replace h := lt_use h x2 ex2
  refine lv_istore (lv' := [(4, .int x2), (0, .ref h0), (1, .ref h_p1), (2, .ref h_p2), (3, .int p3)]) hx hb dX3_lookBack_6 hl (by decide) rfl (fun ls hl => ?_)
  refine lv_iload hx hb dX3_lookBack_8 (lv_at hl 0 rfl) ?_
  refine lv_aload_n hx hb dX3_lookBack_10 rfl (lv_at hl 2 rfl) ?_
  refine va_getN (D := D) (ci := 0) (v := .int (gi s1 9)) (C := RX0) (T := TX0) (N := 14) hx hb hts hinX0 hown hK hP 2 rfl rfl 9 (by decide) (NW.fld hN 17 rfl _) (fun _ h9 => h9) rfl dX3_lookBack_11 ?_
  refine lv_icmp_lt (tgt := 30) hx hb dX3_lookBack_14 (by decide) (fun c3 => ?_) (fun c3 => ?_)
  · replace h := (if_pos c3).symm.trans h
    refine lv_aload_n hx hb dX3_lookBack_30 rfl (lv_at hl 3 rfl) ?_
    refine va_getN (D := D) (ci := 5) (v := .ref (a2 0)) (C := RX5) (T := TX5) (N := 8) hx hb hts hinX5 hown hK hP 11 rfl rfl 0 (by decide) (NW.fld hN 25 rfl _) (fun _ h9 => h9) rfl dX3_lookBack_31 ?_
    refine lv_iload_n hx hb dX3_lookBack_34 rfl (lv_at hl 4 rfl) ?_
    refine va_iald hx hb hK hP 12 1 rfl rfl (inb_in g1) dX3_lookBack_35 ?_
    refine lv_bipush (v := 18) hx hb dX3_lookBack_36 (by decide) ?_
    refine lv_icmp_ne (tgt := 56) hx hb dX3_lookBack_38 (by decide) (fun c4 => ?_) (fun c4 => ?_)
    · replace h := (if_neg c4).symm.trans h
      refine lv_aload_n hx hb dX3_lookBack_56 rfl (lv_at hl 2 rfl) ?_
      refine lv_iload hx hb dX3_lookBack_57 (lv_at hl 0 rfl) ?_
      obtain ⟨r5, hr5, h⟩ := bd_elim h
      refine ca_i (w' := [WX3 cy h0 a0 s0, WX0 cy h_p1 a1 r5.2, WX5 cy h_p2 a2 s2]) (rn_V (As := [.int x2]) (rest := []) ⟨hx, hb, hml, hown, hts⟩ (kX0_learnOf l D cy h_p1 a1 s1 x2 r5 hr5 H.size) (cwV 1 hts gX3_lookBack_X0_learnOf rfl rfl rfl (by decide +kernel) ⟨Nat.le_of_ble_eq_true rfl, Nat.le_of_ble_eq_true rfl⟩) hK hN hP hD [1] rfl rfl (ci := 0) (q0 := 2) rfl rfl rfl rfl hl.1 rfl (Nat.le_of_ble_eq_true rfl) dX3_lookBack_59 ⟨Nat.le_refl 0, Nat.le_refl 0⟩) hP hD hS hA [1] ⟨rfl, rfl, rfl, rfl⟩ (fun H locs hP hD hS => ?_)
      refine lv_pop hx hb dX3_lookBack_62 rfl ?_
      exact hret 63 H locs ls (s0, r5.2) (Option.some.inj h) hP hD hS dX3_lookBack_63
    · replace h := (if_pos c4).symm.trans h
      refine lv_aload_n hx hb dX3_lookBack_41 rfl (lv_at hl 2 rfl) ?_
      refine lv_aload_n hx hb dX3_lookBack_42 rfl (lv_at hl 3 rfl) ?_
      refine va_getN (D := D) (ci := 5) (v := .ref (a2 1)) (C := RX5) (T := TX5) (N := 8) hx hb hts hinX5 hown hK hP 11 rfl rfl 1 (by decide) (NW.fld hN 27 rfl _) (fun _ h9 => h9) rfl dX3_lookBack_43 ?_
      refine lv_iload_n hx hb dX3_lookBack_46 rfl (lv_at hl 4 rfl) ?_
      refine va_iald hx hb hK hP 13 1 rfl rfl (inb_in g1) dX3_lookBack_47 ?_
      refine lv_iload hx hb dX3_lookBack_48 (lv_at hl 0 rfl) ?_
      obtain ⟨r6, hr6, h⟩ := bd_elim h
      refine ca_v (w' := [WX3 cy h0 a0 s0, WX0 cy h_p1 a1 r6, WX5 cy h_p2 a2 s2]) (rn_V (As := [.int (ga s2 1 p3.toNatClampNeg), .int x2]) (rest := []) ⟨hx, hb, hml, hown, hts⟩ (kX0_turn l D cy h_p1 a1 s1 (ga s2 1 p3.toNatClampNeg) x2 r6 hr6 H.size) (cwV 2 hts gX3_lookBack_X0_turn rfl rfl rfl (by decide +kernel) ⟨Nat.le_of_ble_eq_true rfl, Nat.le_of_ble_eq_true rfl⟩) hK hN hP hD [1] rfl rfl (ci := 0) (q0 := 2) rfl rfl rfl rfl hl.1 rfl (Nat.le_of_ble_eq_true rfl) dX3_lookBack_50 ⟨Nat.le_refl 0, Nat.le_refl 0⟩) hP hD hS hA [1] ⟨rfl, rfl, rfl, rfl⟩ (fun H locs hP hD hS => ?_)
      refine lv_goto (tgt := 63) hx hb dX3_lookBack_53 (by decide) ?_
      exact hret 63 H locs ls (s0, r6) (Option.some.inj h) hP hD hS dX3_lookBack_63
  · replace h := (if_neg c3).symm.trans h
    refine lv_aload_n hx hb dX3_lookBack_17 rfl (lv_at hl 1 rfl) ?_
    refine lv_dup hx hb dX3_lookBack_18 rfl ?_
    refine va_get (D := D) (ci := 3) (v := .int (gi s0 3)) (C := RX3) (T := TX3) (N := 7) hx hb hts hinX3 hown hK hP 0 rfl rfl 3 (by decide) (hts (.fieldLink RX3 26 "KneeBench$Life" "missed" "I") (List.mem_of_getElem? (i := 1) rfl)) (fun _ h9 => h9) rfl dX3_lookBack_19 ?_
    refine lv_iconst (v := 1) hx hb dX3_lookBack_22 (by decide) ?_
    refine lv_iadd hx hb dX3_lookBack_23 ?_
    obtain ⟨s0_7, es, h⟩ := lt_elim h
    refine va_put (D := D) (ci := 3) (v := .int ((gi s0 3) + (1 : Int32))) (ty := .int) (C := RX3) (T := TX3) (N := 7) hx hb hts hinX3 tyX3 tyX3_ok nmX3 hown hK hP hD hS 0 rfl rfl 3 (by decide) (hts (.fieldLink RX3 26 "KneeBench$Life" "missed" "I") (List.mem_of_getElem? (i := 1) rfl)) (fun _ h9 => h9) rfl (by decide +kernel) rfl rfl (Nat.le_of_ble_eq_true rfl) dX3_lookBack_24 (fun H locs hP hD hS => ?_)
    have hP : va_P D vwCl (flat [WX3 cy h0 a0 s0_7, WX0 cy h_p1 a1 s1, WX5 cy h_p2 a2 s2]) H := by rw [es]; exact hP
    have hD : va_D A (flat [WX3 cy h0 a0 s0_7, WX0 cy h_p1 a1 s1, WX5 cy h_p2 a2 s2]) := by rw [es]; exact hD
    clear es
    refine lv_goto (tgt := 63) hx hb dX3_lookBack_27 (by decide) ?_
    exact hret 63 H locs ls (s0_7, s1) (Option.some.inj h) hP hD hS dX3_lookBack_63
