theorem dX10_answer_0 : decode cX10_answer 0 = .ok (.aload_n 0, 1) := by decide +kernel
theorem dX10_answer_1 : decode cX10_answer 1 = .ok (.iconst 0, 1) := by decide +kernel
theorem dX10_answer_2 : decode cX10_answer 2 = .ok (.putfield 102, 3) := by decide +kernel
theorem dX10_answer_5 : decode cX10_answer 5 = .ok (.iload_n 1, 1) := by decide +kernel
theorem dX10_answer_6 : decode cX10_answer 6 = .ok (.ireturn, 1) := by decide +kernel
abbrev rmX10_answer : Room := { frames := 0, cells := 0, slots := 0, locals := 0 }
set_option maxHeartbeats 4000000 in
set_option maxRecDepth 100000 in
theorem kX10_answer (l : Launch) (D : va_G) (cy : Nat → ClassId) (h0 : Nat) (a0 : Nat → Nat) (s0 : Rc) (p1 : Int32) (res : Int32 × Rc) (h : fX10_answer p1 s0 = res) : CI l D cy yX10_answer wsX10_answer rmX10_answer [.ref h0, .int p1] (flat [WX10 cy h0 a0 s0]) (flat [WX10 cy h0 a0 res.2]) res.1 := by
  refine CI.of (cc := cX10_answer) (maxL := 2) (by decide) rfl (Nat.le_of_ble_eq_true rfl) ?_
  intro p e s m args below meth c A QQ ls E hr
  obtain ⟨hx, hb, hml, hown, hts, hK, hN, hP, hD, hA, hl⟩ := E
  have hret : ∀ (pc : Nat) (H : Heap) (locs : List Loc) (ls : Array Slot) (u : Int32 × Rc), u = res → va_P D vwCl (flat [WX10 cy h0 a0 u.2]) H → va_D A (flat [WX10 cy h0 a0 u.2]) → va_S A s.heap H locs → decode cX10_answer pc = .ok (.ireturn, 1) → W p l e rmX10_answer s m args below meth c H locs 0 0 QQ (F0 m pc ls [.int u.1]) := by
    intro pc H locs ls u hu hP hD hS hd; subst hu; exact hr pc H locs ls _ rfl hP hD hS hd
  clear hr
  have hl : lv_has ls 2 [(0, .ref h0), (1, .int p1)] := hl
  have hinX10 : ∀ w ∈ wsX100, w ∈ wsX10_answer := fun _ h => List.mem_cons_of_mem _ (List.mem_append_right _ h)
  unfold fX10_answer at h
  suffices key : ∀ (H : Heap) (locs : List Loc), va_P D vwCl (flat [WX10 cy h0 a0 s0]) H → va_S A s.heap H locs → W p l e rmX10_answer s m args below meth c H locs 0 0 QQ (F0 m 0 ls []) from key _ _ hP va_S.rf
  clear hP
  intro H locs hP hS
  refine lv_aload_n hx hb dX10_answer_0 rfl (lv_at hl 0 rfl) ?_
  refine lv_iconst (v := 0) hx hb dX10_answer_1 (by decide) ?_
  obtain ⟨s0_1, es, h⟩ := lt_elim h
  refine va_put (D := D) (ci := 10) (v := .int (0 : Int32)) (ty := .int) (C := RX10) (T := TX10) (N := 19) hx hb hts hinX10 tyX10 tyX10_ok nmX10 hown hK hP hD hS 0 rfl rfl 16 (by decide) (hts (.fieldLink RX10 102 "KneeBench" "latestStatus" "I") (List.mem_of_getElem? (i := 1) rfl)) (fun _ h9 => h9) rfl (by decide +kernel) rfl rfl (Nat.le_of_ble_eq_true rfl) dX10_answer_2 (fun H locs hP hD hS => ?_)
  have hP : va_P D vwCl (flat [WX10 cy h0 a0 s0_1]) H := by rw [es]; exact hP
  have hD : va_D A (flat [WX10 cy h0 a0 s0_1]) := by rw [es]; exact hD
  clear es
  refine lv_iload_n hx hb dX10_answer_5 rfl (lv_at hl 1 rfl) ?_
  exact hret 6 H locs ls (p1, s0_1) h hP hD hS dX10_answer_6
set_option maxRecDepth 20000 in
theorem ggX10_agrees_X10_noFarmer : GoodIn wsX10_agrees wsX10_noFarmer := goodIn_r _ [6, 1, 68, 69, 70, 71, 72, 73, 74, 75, 76, 77, 78, 79, 80, 81, 82, 83, 84, 85, 86, 87, 88, 89, 90, 91, 92, 93, 94, 95, 96, 97, 98, 99, 100] (by decide +kernel) (by decide +kernel)
set_option maxRecDepth 20000 in
theorem gX10_agrees_X10_noFarmer : GoodIn wsX10_agrees (wsV RX10 215 RX10 yX10_noFarmer wsX10_noFarmer) := goodIn_app (goodIn_of _ (by decide +kernel)) ggX10_agrees_X10_noFarmer
set_option maxRecDepth 20000 in
theorem ggX10_agrees_X10_refuse : GoodIn wsX10_agrees wsX10_refuse := goodIn_r _ [10, 11, 68, 69, 70, 71, 72, 73, 74, 75, 76, 77, 78, 79, 80, 81, 82, 83, 84, 85, 86] (by decide +kernel) (by decide +kernel)
set_option maxRecDepth 20000 in
theorem gX10_agrees_X10_refuse : GoodIn wsX10_agrees (wsV RX10 139 RX10 yX10_refuse wsX10_refuse) := goodIn_app (goodIn_of _ (by decide +kernel)) ggX10_agrees_X10_refuse
set_option maxRecDepth 20000 in
theorem ggX10_agrees_X0_hasWord : GoodIn wsX10_agrees wsX0_hasWord := goodIn_r _ [16, 17, 18, 19, 87, 88, 89, 90, 91, 92, 93, 94, 95, 96, 97, 98, 99, 100] (by decide +kernel) (by decide +kernel)
set_option maxRecDepth 20000 in
theorem gX10_agrees_X0_hasWord : GoodIn wsX10_agrees (wsV RX10 284 RX0 yX0_hasWord wsX0_hasWord) := goodIn_app (goodIn_of _ (by decide +kernel)) ggX10_agrees_X0_hasWord
set_option maxRecDepth 20000 in
theorem ggX10_agrees_X0_believes : GoodIn wsX10_agrees wsX0_believes := goodIn_r _ [23, 17, 24, 13, 14, 15, 16, 18, 19, 25, 26, 27, 28, 29, 87, 88, 89, 90, 91, 92, 93, 94, 95, 96, 97, 98, 99, 100] (by decide +kernel) (by decide +kernel)
set_option maxRecDepth 20000 in
theorem gX10_agrees_X0_believes : GoodIn wsX10_agrees (wsV RX10 288 RX0 yX0_believes wsX0_believes) := goodIn_app (goodIn_of _ (by decide +kernel)) ggX10_agrees_X0_believes
set_option maxRecDepth 20000 in
theorem ggX10_agrees_X10_bit : GoodIn wsX10_agrees wsX10_bit := goodIn_r _ [32] (by decide +kernel) (by decide +kernel)
set_option maxRecDepth 20000 in
theorem gX10_agrees_X10_bit : GoodIn wsX10_agrees (va_wsS RX10 230 yX10_bit wsX10_bit) := goodIn_app (goodIn_of _ (by decide +kernel)) ggX10_agrees_X10_bit
set_option maxRecDepth 20000 in
theorem ggX10_agrees_X0_verdictOf : GoodIn wsX10_agrees wsX0_verdictOf := goodIn_r _ [36, 37, 38, 39, 40, 15, 41, 42, 24, 13, 14, 16, 17, 18, 19, 43, 44, 45, 46, 47, 21, 22, 23, 25, 26, 27, 28, 29, 48, 49, 50, 51, 52, 53, 54, 55, 56, 57, 58, 31, 5, 32, 59, 60, 61, 62, 63, 87, 88, 89, 90, 91, 92, 93, 94, 95, 96, 97, 98, 99, 100] (by decide +kernel) (by decide +kernel)
set_option maxRecDepth 20000 in
theorem gX10_agrees_X0_verdictOf : GoodIn wsX10_agrees (wsV RX10 293 RX0 yX0_verdictOf wsX0_verdictOf) := goodIn_app (goodIn_of _ (by decide +kernel)) ggX10_agrees_X0_verdictOf
set_option maxRecDepth 20000 in
theorem ggX10_agrees_X10_answer : GoodIn wsX10_agrees wsX10_answer := goodIn_r _ [67, 11, 68, 69, 70, 71, 72, 73, 74, 75, 76, 77, 78, 79, 80, 81, 82, 83, 84, 85, 86] (by decide +kernel) (by decide +kernel)
set_option maxRecDepth 20000 in
theorem gX10_agrees_X10_answer : GoodIn wsX10_agrees (wsV RX10 181 RX10 yX10_answer wsX10_answer) := goodIn_app (goodIn_of _ (by decide +kernel)) ggX10_agrees_X10_answer
theorem dX10_agrees_0 : decode cX10_agrees 0 = .ok (.aload_n 0, 1) := by decide +kernel
theorem dX10_agrees_1 : decode cX10_agrees 1 = .ok (.iload_n 1, 1) := by decide +kernel
theorem dX10_agrees_2 : decode cX10_agrees 2 = .ok (.invokevirtual 215, 3) := by decide +kernel
theorem dX10_agrees_5 : decode cX10_agrees 5 = .ok (.ifCond .eq 9, 3) := by decide +kernel
theorem dX10_agrees_8 : decode cX10_agrees 8 = .ok (.aload_n 0, 1) := by decide +kernel
theorem dX10_agrees_9 : decode cX10_agrees 9 = .ok (.iconst 1, 1) := by decide +kernel
theorem dX10_agrees_10 : decode cX10_agrees 10 = .ok (.invokevirtual 139, 3) := by decide +kernel
theorem dX10_agrees_13 : decode cX10_agrees 13 = .ok (.ireturn, 1) := by decide +kernel
theorem dX10_agrees_14 : decode cX10_agrees 14 = .ok (.iconst 0, 1) := by decide +kernel
theorem dX10_agrees_15 : decode cX10_agrees 15 = .ok (.istore_n 2, 1) := by decide +kernel
theorem dX10_agrees_16 : decode cX10_agrees 16 = .ok (.iconst 0, 1) := by decide +kernel
theorem dX10_agrees_17 : decode cX10_agrees 17 = .ok (.istore_n 3, 1) := by decide +kernel
theorem dX10_agrees_18 : decode cX10_agrees 18 = .ok (.iload_n 3, 1) := by decide +kernel
theorem dX10_agrees_19 : decode cX10_agrees 19 = .ok (.aload_n 0, 1) := by decide +kernel
theorem dX10_agrees_20 : decode cX10_agrees 20 = .ok (.getfield 10, 3) := by decide +kernel
theorem dX10_agrees_23 : decode cX10_agrees 23 = .ok (.getfield 197, 3) := by decide +kernel
theorem dX10_agrees_26 : decode cX10_agrees 26 = .ok (.if_icmp .ge 47, 3) := by decide +kernel
theorem dX10_agrees_29 : decode cX10_agrees 29 = .ok (.aload_n 0, 1) := by decide +kernel
theorem dX10_agrees_30 : decode cX10_agrees 30 = .ok (.getfield 10, 3) := by decide +kernel
theorem dX10_agrees_33 : decode cX10_agrees 33 = .ok (.iload_n 1, 1) := by decide +kernel
theorem dX10_agrees_34 : decode cX10_agrees 34 = .ok (.iload_n 3, 1) := by decide +kernel
theorem dX10_agrees_35 : decode cX10_agrees 35 = .ok (.invokevirtual 284, 3) := by decide +kernel
theorem dX10_agrees_38 : decode cX10_agrees 38 = .ok (.ifCond .eq 29, 3) := by decide +kernel
theorem dX10_agrees_41 : decode cX10_agrees 41 = .ok (.aload_n 0, 1) := by decide +kernel
theorem dX10_agrees_42 : decode cX10_agrees 42 = .ok (.getfield 10, 3) := by decide +kernel
theorem dX10_agrees_45 : decode cX10_agrees 45 = .ok (.iload_n 1, 1) := by decide +kernel
theorem dX10_agrees_46 : decode cX10_agrees 46 = .ok (.iload_n 3, 1) := by decide +kernel
theorem dX10_agrees_47 : decode cX10_agrees 47 = .ok (.invokevirtual 288, 3) := by decide +kernel
theorem dX10_agrees_50 : decode cX10_agrees 50 = .ok (.invokestatic 230, 3) := by decide +kernel
theorem dX10_agrees_53 : decode cX10_agrees 53 = .ok (.aload_n 0, 1) := by decide +kernel
theorem dX10_agrees_54 : decode cX10_agrees 54 = .ok (.getfield 10, 3) := by decide +kernel
theorem dX10_agrees_57 : decode cX10_agrees 57 = .ok (.iload_n 3, 1) := by decide +kernel
theorem dX10_agrees_58 : decode cX10_agrees 58 = .ok (.invokevirtual 293, 3) := by decide +kernel
theorem dX10_agrees_61 : decode cX10_agrees 61 = .ok (.if_icmp .ne 6, 3) := by decide +kernel
theorem dX10_agrees_64 : decode cX10_agrees 64 = .ok (.iinc 2 1, 3) := by decide +kernel
theorem dX10_agrees_67 : decode cX10_agrees 67 = .ok (.iinc 3 1, 3) := by decide +kernel
theorem dX10_agrees_70 : decode cX10_agrees 70 = .ok (.goto (-52), 3) := by decide +kernel
theorem dX10_agrees_73 : decode cX10_agrees 73 = .ok (.aload_n 0, 1) := by decide +kernel
theorem dX10_agrees_74 : decode cX10_agrees 74 = .ok (.iload_n 2, 1) := by decide +kernel
theorem dX10_agrees_75 : decode cX10_agrees 75 = .ok (.invokevirtual 181, 3) := by decide +kernel
theorem dX10_agrees_78 : decode cX10_agrees 78 = .ok (.ireturn, 1) := by decide +kernel
abbrev rmX10_agrees : Room := { frames := 4, cells := 0, slots := 0, locals := 89 }
set_option maxHeartbeats 4000000 in
set_option maxRecDepth 100000 in
theorem kX10_agrees (l : Launch) (D : va_G) (cy : Nat → ClassId) (h0 : Nat) (a0 : Nat → Nat) (a1 : Nat → Nat) (s0 : Rc) (s1 : Rc) (p1 : Int32) (res : Int32 × Rc) (h : fX10_agrees p1 s0 s1 = some res) : CI l D cy yX10_agrees wsX10_agrees rmX10_agrees [.ref h0, .int p1] (flat [WX10 cy h0 a0 s0, WX0 cy (a0 0) a1 s1]) (flat [WX10 cy h0 a0 res.2, WX0 cy (a0 0) a1 s1]) res.1 := by
  refine CI.of (cc := cX10_agrees) (maxL := 4) (by decide) rfl (Nat.le_of_ble_eq_true rfl) ?_
  intro p e s m args below meth c A QQ ls E hr
  obtain ⟨hx, hb, hml, hown, hts, hK, hN, hP, hD, hA, hl⟩ := E
  have hret : ∀ (pc : Nat) (H : Heap) (locs : List Loc) (ls : Array Slot) (u : Int32 × Rc), u = res → va_P D vwCl (flat [WX10 cy h0 a0 u.2, WX0 cy (a0 0) a1 s1]) H → va_D A (flat [WX10 cy h0 a0 u.2, WX0 cy (a0 0) a1 s1]) → va_S A s.heap H locs → decode cX10_agrees pc = .ok (.ireturn, 1) → W p l e rmX10_agrees s m args below meth c H locs 0 0 QQ (F0 m pc ls [.int u.1]) := by
    intro pc H locs ls u hu hP hD hS hd; subst hu; exact hr pc H locs ls _ rfl hP hD hS hd
  clear hr
  have hl : lv_has ls 4 [(0, .ref h0), (1, .int p1)] := hl
  have hinX0 : ∀ w ∈ wsX00, w ∈ wsX10_agrees := fun _ h => List.mem_cons_of_mem _ (List.mem_append_right _ h)
  have hinX10 : ∀ w ∈ wsX100, w ∈ wsX10_agrees := fun _ h => List.mem_cons_of_mem _ (List.mem_append_left _ (List.mem_append_right _ h))
  unfold fX10_agrees at h
  suffices key : ∀ (H : Heap) (locs : List Loc), va_P D vwCl (flat [WX10 cy h0 a0 s0, WX0 cy (a0 0) a1 s1]) H → va_S A s.heap H locs → W p l e rmX10_agrees s m args below meth c H locs 0 0 QQ (F0 m 0 ls []) from key _ _ hP va_S.rf
  clear hP
  intro H locs hP hS
  refine lv_aload_n hx hb dX10_agrees_0 rfl (lv_at hl 0 rfl) ?_
  refine lv_iload_n hx hb dX10_agrees_1 rfl (lv_at hl 1 rfl) ?_
  refine ca_z (w' := [WX10 cy h0 a0 s0, WX0 cy (a0 0) a1 s1]) (rn_V (As := [.int p1]) (rest := []) ⟨hx, hb, hml, hown, hts⟩ (kX10_noFarmer l D cy h0 a0 a1 s0 s1 p1 _ rfl H.size) (cwV 1 hts gX10_agrees_X10_noFarmer rfl rfl rfl (by decide +kernel) ⟨Nat.le_of_ble_eq_true rfl, Nat.le_of_ble_eq_true rfl⟩) hK hN hP hD [0, 1] rfl rfl (ci := 10) (q0 := 0) rfl rfl rfl rfl hl.1 rfl (Nat.le_of_ble_eq_true rfl) dX10_agrees_2 ⟨Nat.le_refl 0, Nat.le_refl 0⟩) hP hD hS hA [0, 1] ⟨rfl, rfl, rfl, rfl⟩ (fun b1 H locs hP hD hS => ?_)
  refine lv_if_eq (tgt := 14) hx hb dX10_agrees_5 (by decide) (fun c2 => ?_) (fun c2 => ?_)
  · replace h := (if_pos c2).symm.trans h
    refine lv_iconst (v := 0) hx hb dX10_agrees_14 (by decide) ?_
    refine lv_istore_n (lv' := [(2, .int (0 : Int32)), (0, .ref h0), (1, .int p1)]) hx hb dX10_agrees_15 rfl hl (by decide) rfl (fun ls hl => ?_)
    refine lv_iconst (v := 0) hx hb dX10_agrees_16 (by decide) ?_
    refine lv_istore_n (lv' := [(3, .int (0 : Int32)), (2, .int (0 : Int32)), (0, .ref h0), (1, .int p1)]) hx hb dX10_agrees_17 rfl hl (by decide) rfl (fun ls hl => ?_)
    have L18 : ∀ (n : Nat) (q18 : Int32 × Int32) (o : Int32), loopO (fX10_agrees_L18 p1 s1) n q18 = some o → ∀ (H : Heap) (locs : List Loc) (ls : Array Slot), lv_has ls 4 [(0, .ref h0), (1, .int p1), (2, .int q18.1), (3, .int q18.2)] → va_P D vwCl (flat [WX10 cy h0 a0 s0, WX0 cy (a0 0) a1 s1]) H → va_D A (flat [WX10 cy h0 a0 s0, WX0 cy (a0 0) a1 s1]) → va_S A s.heap H locs → ∀ (kk73 : ∀ (H : Heap) (locs : List Loc) (ls : Array Slot), lv_has ls 4 [(0, .ref h0), (2, .int o)] → va_P D vwCl (flat [WX10 cy h0 a0 s0, WX0 cy (a0 0) a1 s1]) H → va_D A (flat [WX10 cy h0 a0 s0, WX0 cy (a0 0) a1 s1]) → va_S A s.heap H locs → W p l e rmX10_agrees s m args below meth c H locs 0 0 QQ (F0 m 73 ls [])), W p l e rmX10_agrees s m args below meth c H locs 0 0 QQ (F0 m 18 ls []) := by
      intro n
      induction n with
      | zero => intro q18 o h; exact absurd h (by rw [loopO_zero]; intro z; cases z)
      | succ n ih =>
        intro q18 o h H locs ls hl hP hD hS kk73
        obtain ⟨w, h, hgo, hst⟩ := loopO_elim h
        unfold fX10_agrees_L18 at h
        refine lv_iload_n hx hb dX10_agrees_18 rfl (lv_at hl 3 rfl) ?_
        refine lv_aload_n hx hb dX10_agrees_19 rfl (lv_at hl 0 rfl) ?_
        refine va_get (D := D) (ci := 10) (v := .ref (a0 0)) (C := RX10) (T := TX10) (N := 19) hx hb hts hinX10 hown hK hP 0 rfl rfl 0 (by decide) (hts (.fieldLink RX10 10 "KneeBench" "bench" "LKneeBench$Bench;") (List.mem_of_getElem? (i := 1) rfl)) (fun _ h9 => h9) rfl dX10_agrees_20 ?_
        refine va_getN (D := D) (ci := 0) (v := .int (gi s1 9)) (C := RX0) (T := TX0) (N := 14) hx hb hts hinX0 hown hK hP 1 rfl rfl 9 (by decide) (NW.fld hN 19 rfl _) (fun _ h9 => h9) rfl dX10_agrees_23 ?_
        refine lv_icmp_ge (tgt := 73) hx hb dX10_agrees_26 (by decide) (fun c3 => ?_) (fun c3 => ?_)
        · replace h := (if_pos c3).symm.trans h
          have eo := hst _ (Option.some.inj h).symm
          subst eo
          exact kk73 H locs ls (lv_sub hl [0, 2] rfl) hP hD hS
        · replace h := (if_neg c3).symm.trans h
          refine lv_aload_n hx hb dX10_agrees_29 rfl (lv_at hl 0 rfl) ?_
          refine va_get (D := D) (ci := 10) (v := .ref (a0 0)) (C := RX10) (T := TX10) (N := 19) hx hb hts hinX10 hown hK hP 0 rfl rfl 0 (by decide) (hts (.fieldLink RX10 10 "KneeBench" "bench" "LKneeBench$Bench;") (List.mem_of_getElem? (i := 1) rfl)) (fun _ h9 => h9) rfl dX10_agrees_30 ?_
          refine lv_iload_n hx hb dX10_agrees_33 rfl (lv_at hl 1 rfl) ?_
          refine lv_iload_n hx hb dX10_agrees_34 rfl (lv_at hl 3 rfl) ?_
          obtain ⟨r4, hr4, h⟩ := bd_elim h
          refine ca_z (w' := [WX10 cy h0 a0 s0, WX0 cy (a0 0) a1 s1]) (rn_V (As := [.int p1, .int q18.2]) (rest := []) ⟨hx, hb, hml, hown, hts⟩ (kX0_hasWord l D cy (a0 0) a1 s1 p1 q18.2 r4 hr4 H.size) (cwV 2 hts gX10_agrees_X0_hasWord rfl rfl rfl (by decide +kernel) ⟨Nat.le_of_ble_eq_true rfl, Nat.le_of_ble_eq_true rfl⟩) hK hN hP hD [1] rfl rfl (ci := 0) (q0 := 1) rfl rfl rfl rfl hl.1 rfl (Nat.le_of_ble_eq_true rfl) dX10_agrees_35 ⟨Nat.le_refl 0, Nat.le_refl 0⟩) hP hD hS hA [1] ⟨rfl, rfl, rfl, rfl⟩ (fun b5 H locs hP hD hS => ?_)
          refine lv_if_eq (tgt := 67) hx hb dX10_agrees_38 (by decide) (fun c6 => ?_) (fun c6 => ?_)
          · replace h := (if_pos c6).symm.trans h
            refine lv_iinc (v := (q18.2 + (1 : Int32))) (lv' := [(3, .int (q18.2 + (1 : Int32))), (0, .ref h0), (1, .int p1), (2, .int q18.1)]) hx hb dX10_agrees_67 hl (k := 3) rfl rfl (by decide) rfl (fun ls hl => ?_)
            refine lv_goto (tgt := 18) hx hb dX10_agrees_70 (by decide) ?_
            exact ih _ o (hgo _ (Option.some.inj h).symm) H locs ls (lv_sub hl [1, 2, 3, 0] rfl) hP hD hS kk73
          · replace h := (if_neg c6).symm.trans h
            refine lv_aload_n hx hb dX10_agrees_41 rfl (lv_at hl 0 rfl) ?_
            refine va_get (D := D) (ci := 10) (v := .ref (a0 0)) (C := RX10) (T := TX10) (N := 19) hx hb hts hinX10 hown hK hP 0 rfl rfl 0 (by decide) (hts (.fieldLink RX10 10 "KneeBench" "bench" "LKneeBench$Bench;") (List.mem_of_getElem? (i := 1) rfl)) (fun _ h9 => h9) rfl dX10_agrees_42 ?_
            refine lv_iload_n hx hb dX10_agrees_45 rfl (lv_at hl 1 rfl) ?_
            refine lv_iload_n hx hb dX10_agrees_46 rfl (lv_at hl 3 rfl) ?_
            obtain ⟨r7, hr7, h⟩ := bd_elim h
            refine ca_z (w' := [WX10 cy h0 a0 s0, WX0 cy (a0 0) a1 s1]) (rn_V (As := [.int p1, .int q18.2]) (rest := []) ⟨hx, hb, hml, hown, hts⟩ (kX0_believes l D cy (a0 0) a1 s1 p1 q18.2 r7 hr7 H.size) (cwV 2 hts gX10_agrees_X0_believes rfl rfl rfl (by decide +kernel) ⟨Nat.le_of_ble_eq_true rfl, Nat.le_of_ble_eq_true rfl⟩) hK hN hP hD [1] rfl rfl (ci := 0) (q0 := 1) rfl rfl rfl rfl hl.1 rfl (Nat.le_of_ble_eq_true rfl) dX10_agrees_47 ⟨Nat.le_refl 0, Nat.le_refl 0⟩) hP hD hS hA [1] ⟨rfl, rfl, rfl, rfl⟩ (fun b8 H locs hP hD hS => ?_)
            refine ca_i (w' := [WX10 cy h0 a0 s0, WX0 cy (a0 0) a1 s1]) (rn_S (As := [.int r7]) (rest := []) ⟨hx, hb, hml, hown, hts⟩ (kX10_bit l D cy r7 _ rfl H.size) (va_cwS 1 hts gX10_agrees_X10_bit rfl rfl rfl (by decide +kernel) ⟨Nat.le_of_ble_eq_true rfl, Nat.le_of_ble_eq_true rfl⟩) hK hN hP hD [] rfl rfl rfl hl.1 rfl (Nat.le_of_ble_eq_true rfl) dX10_agrees_50 ⟨Nat.le_refl 0, Nat.le_refl 0⟩) hP hD hS hA [] ⟨rfl, rfl, rfl, rfl⟩ (fun H locs hP hD hS => ?_)
            refine lv_aload_n hx hb dX10_agrees_53 rfl (lv_at hl 0 rfl) ?_
            refine va_get (D := D) (ci := 10) (v := .ref (a0 0)) (C := RX10) (T := TX10) (N := 19) hx hb hts hinX10 hown hK hP 0 rfl rfl 0 (by decide) (hts (.fieldLink RX10 10 "KneeBench" "bench" "LKneeBench$Bench;") (List.mem_of_getElem? (i := 1) rfl)) (fun _ h9 => h9) rfl dX10_agrees_54 ?_
            refine lv_iload_n hx hb dX10_agrees_57 rfl (lv_at hl 3 rfl) ?_
            obtain ⟨r9, hr9, h⟩ := bd_elim h
            refine ca_i (w' := [WX10 cy h0 a0 s0, WX0 cy (a0 0) a1 s1]) (rn_V (As := [.int q18.2]) (rest := [.int (fX10_bit r7)]) ⟨hx, hb, hml, hown, hts⟩ (kX0_verdictOf l D cy (a0 0) a1 s1 q18.2 r9 hr9 H.size) (cwV 1 hts gX10_agrees_X0_verdictOf rfl rfl rfl (by decide +kernel) ⟨Nat.le_of_ble_eq_true rfl, Nat.le_of_ble_eq_true rfl⟩) hK hN hP hD [1] rfl rfl (ci := 0) (q0 := 1) rfl rfl rfl rfl hl.1 rfl (Nat.le_of_ble_eq_true rfl) dX10_agrees_58 ⟨Nat.le_refl 0, Nat.le_refl 0⟩) hP hD hS hA [1] ⟨rfl, rfl, rfl, rfl⟩ (fun H locs hP hD hS => ?_)
            refine lv_icmp_ne (tgt := 67) hx hb dX10_agrees_61 (by decide) (fun c10 => ?_) (fun c10 => ?_)
            · replace h := (if_neg c10).symm.trans h
              refine lv_iinc (v := (q18.2 + (1 : Int32))) (lv' := [(3, .int (q18.2 + (1 : Int32))), (0, .ref h0), (1, .int p1), (2, .int q18.1)]) hx hb dX10_agrees_67 hl (k := 3) rfl rfl (by decide) rfl (fun ls hl => ?_)
              refine lv_goto (tgt := 18) hx hb dX10_agrees_70 (by decide) ?_
              exact ih _ o (hgo _ (Option.some.inj h).symm) H locs ls (lv_sub hl [1, 2, 3, 0] rfl) hP hD hS kk73
            · replace h := (if_pos c10).symm.trans h
              refine lv_iinc (v := (q18.1 + (1 : Int32))) (lv' := [(2, .int (q18.1 + (1 : Int32))), (0, .ref h0), (1, .int p1), (3, .int q18.2)]) hx hb dX10_agrees_64 hl (k := 2) rfl rfl (by decide) rfl (fun ls hl => ?_)
              refine lv_iinc (v := (q18.2 + (1 : Int32))) (lv' := [(3, .int (q18.2 + (1 : Int32))), (2, .int (q18.1 + (1 : Int32))), (0, .ref h0), (1, .int p1)]) hx hb dX10_agrees_67 hl (k := 3) rfl rfl (by decide) rfl (fun ls hl => ?_)
              refine lv_goto (tgt := 18) hx hb dX10_agrees_70 (by decide) ?_
              exact ih _ o (hgo _ (Option.some.inj h).symm) H locs ls (lv_sub hl [2, 3, 1, 0] rfl) hP hD hS kk73
    obtain ⟨o18, ho18, h⟩ := bd_elim h
    obtain ⟨n18, hn18⟩ := loopF_some ho18
    refine L18 n18 _ o18 hn18 H locs ls (lv_sub hl [2, 3, 1, 0] rfl) hP hD hS (fun H locs ls hl hP hD hS => ?_)
    refine lv_aload_n hx hb dX10_agrees_73 rfl (lv_at hl 0 rfl) ?_
    refine lv_iload_n hx hb dX10_agrees_74 rfl (lv_at hl 1 rfl) ?_
    obtain ⟨r11, hr11, h⟩ := lt_elim h
    refine ca_i (w' := [WX10 cy h0 a0 r11.2, WX0 cy (a0 0) a1 s1]) (rn_V (As := [.int o18]) (rest := []) ⟨hx, hb, hml, hown, hts⟩ (kX10_answer l D cy h0 a0 s0 o18 r11 hr11.symm H.size) (cwV 1 hts gX10_agrees_X10_answer rfl rfl rfl (by decide +kernel) ⟨Nat.le_of_ble_eq_true rfl, Nat.le_of_ble_eq_true rfl⟩) hK hN hP hD [0] rfl rfl (ci := 10) (q0 := 0) rfl rfl rfl rfl hl.1 rfl (Nat.le_of_ble_eq_true rfl) dX10_agrees_75 ⟨Nat.le_refl 0, Nat.le_refl 0⟩) hP hD hS hA [0] ⟨rfl, rfl, rfl, rfl⟩ (fun H locs hP hD hS => ?_)
    exact hret 78 H locs ls (r11.1, r11.2) (Option.some.inj h) hP hD hS dX10_agrees_78
  · replace h := (if_neg c2).symm.trans h
    refine lv_aload_n hx hb dX10_agrees_8 rfl (lv_at hl 0 rfl) ?_
    refine lv_iconst (v := 1) hx hb dX10_agrees_9 (by decide) ?_
    obtain ⟨r12, hr12, h⟩ := lt_elim h
    refine ca_i (w' := [WX10 cy h0 a0 r12.2, WX0 cy (a0 0) a1 s1]) (rn_V (As := [.int (1 : Int32)]) (rest := []) ⟨hx, hb, hml, hown, hts⟩ (kX10_refuse l D cy h0 a0 s0 (1 : Int32) r12 hr12.symm H.size) (cwV 1 hts gX10_agrees_X10_refuse rfl rfl rfl (by decide +kernel) ⟨Nat.le_of_ble_eq_true rfl, Nat.le_of_ble_eq_true rfl⟩) hK hN hP hD [0] rfl rfl (ci := 10) (q0 := 0) rfl rfl rfl rfl hl.1 rfl (Nat.le_of_ble_eq_true rfl) dX10_agrees_10 ⟨Nat.le_refl 0, Nat.le_refl 0⟩) hP hD hS hA [0] ⟨rfl, rfl, rfl, rfl⟩ (fun H locs hP hD hS => ?_)
    exact hret 13 H locs ls (r12.1, r12.2) (Option.some.inj h) hP hD hS dX10_agrees_13
set_option maxRecDepth 20000 in
theorem ggX10_noCouple_X10_noFarmer : GoodIn wsX10_noCouple wsX10_noFarmer := goodIn_r _ [5, 6, 7, 8, 9, 10, 11, 12, 13, 14, 15, 16, 17, 18, 19, 20, 21, 22, 23, 24, 25, 26, 27, 28, 29, 30, 31, 32, 33, 34, 35, 36, 37, 38, 39] (by decide +kernel) (by decide +kernel)
set_option maxRecDepth 20000 in
theorem gX10_noCouple_X10_noFarmer : GoodIn wsX10_noCouple (wsV RX10 215 RX10 yX10_noFarmer wsX10_noFarmer) := goodIn_app (goodIn_of _ (by decide +kernel)) ggX10_noCouple_X10_noFarmer
theorem dX10_noCouple_0 : decode cX10_noCouple 0 = .ok (.aload_n 0, 1) := by decide +kernel
theorem dX10_noCouple_1 : decode cX10_noCouple 1 = .ok (.iload_n 1, 1) := by decide +kernel
theorem dX10_noCouple_2 : decode cX10_noCouple 2 = .ok (.invokevirtual 215, 3) := by decide +kernel
theorem dX10_noCouple_5 : decode cX10_noCouple 5 = .ok (.ifCond .ne 16, 3) := by decide +kernel
theorem dX10_noCouple_8 : decode cX10_noCouple 8 = .ok (.aload_n 0, 1) := by decide +kernel
theorem dX10_noCouple_9 : decode cX10_noCouple 9 = .ok (.iload_n 2, 1) := by decide +kernel
theorem dX10_noCouple_10 : decode cX10_noCouple 10 = .ok (.invokevirtual 215, 3) := by decide +kernel
theorem dX10_noCouple_13 : decode cX10_noCouple 13 = .ok (.ifCond .ne 8, 3) := by decide +kernel
theorem dX10_noCouple_16 : decode cX10_noCouple 16 = .ok (.iload_n 1, 1) := by decide +kernel
theorem dX10_noCouple_17 : decode cX10_noCouple 17 = .ok (.iload_n 2, 1) := by decide +kernel
theorem dX10_noCouple_18 : decode cX10_noCouple 18 = .ok (.if_icmp .ne 7, 3) := by decide +kernel
theorem dX10_noCouple_21 : decode cX10_noCouple 21 = .ok (.iconst 1, 1) := by decide +kernel
theorem dX10_noCouple_22 : decode cX10_noCouple 22 = .ok (.goto 4, 3) := by decide +kernel
theorem dX10_noCouple_25 : decode cX10_noCouple 25 = .ok (.iconst 0, 1) := by decide +kernel
theorem dX10_noCouple_26 : decode cX10_noCouple 26 = .ok (.ireturn, 1) := by decide +kernel
abbrev rmX10_noCouple : Room := { frames := 1, cells := 0, slots := 0, locals := 21 }
set_option maxHeartbeats 4000000 in
set_option maxRecDepth 100000 in
theorem kX10_noCouple (l : Launch) (D : va_G) (cy : Nat → ClassId) (h0 : Nat) (a0 : Nat → Nat) (a1 : Nat → Nat) (s0 : Rc) (s1 : Rc) (p1 : Int32) (p2 : Int32) (res : Int32) (h : fX10_noCouple p1 p2 s0 s1 = res) : CZ l D cy yX10_noCouple wsX10_noCouple rmX10_noCouple [.ref h0, .int p1, .int p2] (flat [WX10 cy h0 a0 s0, WX0 cy (a0 0) a1 s1]) (flat [WX10 cy h0 a0 s0, WX0 cy (a0 0) a1 s1]) res := by
  refine CZ.of (cc := cX10_noCouple) (maxL := 3) (by decide) rfl (Nat.le_of_ble_eq_true rfl) ?_
  intro p e s m args below meth c A QQ ls E hr
  obtain ⟨hx, hb, hml, hown, hts, hK, hN, hP, hD, hA, hl⟩ := E
  have hret : ∀ (pc : Nat) (H : Heap) (locs : List Loc) (ls : Array Slot) (u : Int32), u = res → va_P D vwCl (flat [WX10 cy h0 a0 s0, WX0 cy (a0 0) a1 s1]) H → va_D A (flat [WX10 cy h0 a0 s0, WX0 cy (a0 0) a1 s1]) → va_S A s.heap H locs → isb u = true → decode cX10_noCouple pc = .ok (.ireturn, 1) → W p l e rmX10_noCouple s m args below meth c H locs 0 0 QQ (F0 m pc ls [.int u]) := by
    intro pc H locs ls u hu hP hD hS hz hd; subst hu; exact hr pc H locs ls _ rfl hP hD hS hz hd
  clear hr
  have hl : lv_has ls 3 [(0, .ref h0), (1, .int p1), (2, .int p2)] := hl
  unfold fX10_noCouple at h
  suffices key : ∀ (H : Heap) (locs : List Loc), va_P D vwCl (flat [WX10 cy h0 a0 s0, WX0 cy (a0 0) a1 s1]) H → va_S A s.heap H locs → W p l e rmX10_noCouple s m args below meth c H locs 0 0 QQ (F0 m 0 ls []) from key _ _ hP va_S.rf
  clear hP
  intro H locs hP hS
  refine lv_aload_n hx hb dX10_noCouple_0 rfl (lv_at hl 0 rfl) ?_
  refine lv_iload_n hx hb dX10_noCouple_1 rfl (lv_at hl 1 rfl) ?_
  refine ca_z (w' := [WX10 cy h0 a0 s0, WX0 cy (a0 0) a1 s1]) (rn_V (As := [.int p1]) (rest := []) ⟨hx, hb, hml, hown, hts⟩ (kX10_noFarmer l D cy h0 a0 a1 s0 s1 p1 _ rfl H.size) (cwV 1 hts gX10_noCouple_X10_noFarmer rfl rfl rfl (by decide +kernel) ⟨Nat.le_of_ble_eq_true rfl, Nat.le_of_ble_eq_true rfl⟩) hK hN hP hD [0, 1] rfl rfl (ci := 10) (q0 := 0) rfl rfl rfl rfl hl.1 rfl (Nat.le_of_ble_eq_true rfl) dX10_noCouple_2 ⟨Nat.le_refl 0, Nat.le_refl 0⟩) hP hD hS hA [0, 1] ⟨rfl, rfl, rfl, rfl⟩ (fun b1 H locs hP hD hS => ?_)
  refine lv_if_ne (tgt := 21) hx hb dX10_noCouple_5 (by decide) (fun c2 => ?_) (fun c2 => ?_)
  · replace h := (if_neg c2).symm.trans h
    refine lv_iconst (v := 1) hx hb dX10_noCouple_21 (by decide) ?_
    refine lv_goto (tgt := 26) hx hb dX10_noCouple_22 (by decide) ?_
    exact hret 26 H locs ls (1 : Int32) h hP hD hS (show isb (1 : Int32) = true by decide) dX10_noCouple_26
  · replace h := (if_pos c2).symm.trans h
    refine lv_aload_n hx hb dX10_noCouple_8 rfl (lv_at hl 0 rfl) ?_
    refine lv_iload_n hx hb dX10_noCouple_9 rfl (lv_at hl 2 rfl) ?_
    refine ca_z (w' := [WX10 cy h0 a0 s0, WX0 cy (a0 0) a1 s1]) (rn_V (As := [.int p2]) (rest := []) ⟨hx, hb, hml, hown, hts⟩ (kX10_noFarmer l D cy h0 a0 a1 s0 s1 p2 _ rfl H.size) (cwV 1 hts gX10_noCouple_X10_noFarmer rfl rfl rfl (by decide +kernel) ⟨Nat.le_of_ble_eq_true rfl, Nat.le_of_ble_eq_true rfl⟩) hK hN hP hD [0, 1] rfl rfl (ci := 10) (q0 := 0) rfl rfl rfl rfl hl.1 rfl (Nat.le_of_ble_eq_true rfl) dX10_noCouple_10 ⟨Nat.le_refl 0, Nat.le_refl 0⟩) hP hD hS hA [0, 1] ⟨rfl, rfl, rfl, rfl⟩ (fun b3 H locs hP hD hS => ?_)
    refine lv_if_ne (tgt := 21) hx hb dX10_noCouple_13 (by decide) (fun c4 => ?_) (fun c4 => ?_)
    · replace h := (if_neg c4).symm.trans h
      refine lv_iconst (v := 1) hx hb dX10_noCouple_21 (by decide) ?_
      refine lv_goto (tgt := 26) hx hb dX10_noCouple_22 (by decide) ?_
      exact hret 26 H locs ls (1 : Int32) h hP hD hS (show isb (1 : Int32) = true by decide) dX10_noCouple_26
    · replace h := (if_pos c4).symm.trans h
      refine lv_iload_n hx hb dX10_noCouple_16 rfl (lv_at hl 1 rfl) ?_
      refine lv_iload_n hx hb dX10_noCouple_17 rfl (lv_at hl 2 rfl) ?_
      refine lv_icmp_ne (tgt := 25) hx hb dX10_noCouple_18 (by decide) (fun c5 => ?_) (fun c5 => ?_)
      · replace h := (if_neg c5).symm.trans h
        refine lv_iconst (v := 0) hx hb dX10_noCouple_25 (by decide) ?_
        exact hret 26 H locs ls (0 : Int32) h hP hD hS (show isb (0 : Int32) = true by decide) dX10_noCouple_26
      · replace h := (if_pos c5).symm.trans h
        refine lv_iconst (v := 1) hx hb dX10_noCouple_21 (by decide) ?_
        refine lv_goto (tgt := 26) hx hb dX10_noCouple_22 (by decide) ?_
        exact hret 26 H locs ls (1 : Int32) h hP hD hS (show isb (1 : Int32) = true by decide) dX10_noCouple_26
set_option maxRecDepth 20000 in
theorem ggX10_alike_X10_noCouple : GoodIn wsX10_alike wsX10_noCouple := goodIn_r _ [6, 7, 8, 9, 5, 10, 1, 33, 34, 35, 36, 37, 38, 39, 40, 41, 42, 43, 44, 45, 46, 47, 48, 49, 50, 51, 52, 53, 54, 55, 56, 57, 58, 59, 60, 61, 62, 63, 64, 65] (by decide +kernel) (by decide +kernel)
set_option maxRecDepth 20000 in
theorem gX10_alike_X10_noCouple : GoodIn wsX10_alike (wsV RX10 369 RX10 yX10_noCouple wsX10_noCouple) := goodIn_app (goodIn_of _ (by decide +kernel)) ggX10_alike_X10_noCouple
set_option maxRecDepth 20000 in
theorem ggX10_alike_X10_refuse : GoodIn wsX10_alike wsX10_refuse := goodIn_r _ [14, 15, 33, 34, 35, 36, 37, 38, 39, 40, 41, 42, 43, 44, 45, 46, 47, 48, 49, 50, 51] (by decide +kernel) (by decide +kernel)
set_option maxRecDepth 20000 in
theorem gX10_alike_X10_refuse : GoodIn wsX10_alike (wsV RX10 139 RX10 yX10_refuse wsX10_refuse) := goodIn_app (goodIn_of _ (by decide +kernel)) ggX10_alike_X10_refuse
set_option maxRecDepth 20000 in
theorem ggX10_alike_X0_twingesShared : GoodIn wsX10_alike wsX0_twingesShared := goodIn_r _ [20, 21, 22, 23, 24, 25, 26, 27, 28, 52, 53, 54, 55, 56, 57, 58, 59, 60, 61, 62, 63, 64, 65] (by decide +kernel) (by decide +kernel)
set_option maxRecDepth 20000 in
theorem gX10_alike_X0_twingesShared : GoodIn wsX10_alike (wsV RX10 372 RX0 yX0_twingesShared wsX0_twingesShared) := goodIn_app (goodIn_of _ (by decide +kernel)) ggX10_alike_X0_twingesShared
set_option maxRecDepth 20000 in
theorem ggX10_alike_X10_answer : GoodIn wsX10_alike wsX10_answer := goodIn_r _ [32, 15, 33, 34, 35, 36, 37, 38, 39, 40, 41, 42, 43, 44, 45, 46, 47, 48, 49, 50, 51] (by decide +kernel) (by decide +kernel)
set_option maxRecDepth 20000 in
theorem gX10_alike_X10_answer : GoodIn wsX10_alike (wsV RX10 181 RX10 yX10_answer wsX10_answer) := goodIn_app (goodIn_of _ (by decide +kernel)) ggX10_alike_X10_answer
theorem dX10_alike_0 : decode cX10_alike 0 = .ok (.aload_n 0, 1) := by decide +kernel
theorem dX10_alike_1 : decode cX10_alike 1 = .ok (.iload_n 1, 1) := by decide +kernel
theorem dX10_alike_2 : decode cX10_alike 2 = .ok (.iload_n 2, 1) := by decide +kernel
theorem dX10_alike_3 : decode cX10_alike 3 = .ok (.invokevirtual 369, 3) := by decide +kernel
theorem dX10_alike_6 : decode cX10_alike 6 = .ok (.ifCond .eq 9, 3) := by decide +kernel
theorem dX10_alike_9 : decode cX10_alike 9 = .ok (.aload_n 0, 1) := by decide +kernel
theorem dX10_alike_10 : decode cX10_alike 10 = .ok (.iconst 1, 1) := by decide +kernel
theorem dX10_alike_11 : decode cX10_alike 11 = .ok (.invokevirtual 139, 3) := by decide +kernel
theorem dX10_alike_14 : decode cX10_alike 14 = .ok (.ireturn, 1) := by decide +kernel
theorem dX10_alike_15 : decode cX10_alike 15 = .ok (.aload_n 0, 1) := by decide +kernel
theorem dX10_alike_16 : decode cX10_alike 16 = .ok (.aload_n 0, 1) := by decide +kernel
theorem dX10_alike_17 : decode cX10_alike 17 = .ok (.getfield 10, 3) := by decide +kernel
theorem dX10_alike_20 : decode cX10_alike 20 = .ok (.iload_n 1, 1) := by decide +kernel
theorem dX10_alike_21 : decode cX10_alike 21 = .ok (.iload_n 2, 1) := by decide +kernel
theorem dX10_alike_22 : decode cX10_alike 22 = .ok (.invokevirtual 372, 3) := by decide +kernel
theorem dX10_alike_25 : decode cX10_alike 25 = .ok (.invokevirtual 181, 3) := by decide +kernel
theorem dX10_alike_28 : decode cX10_alike 28 = .ok (.ireturn, 1) := by decide +kernel
abbrev rmX10_alike : Room := { frames := 2, cells := 0, slots := 0, locals := 43 }
set_option maxHeartbeats 4000000 in
set_option maxRecDepth 100000 in
theorem kX10_alike (l : Launch) (D : va_G) (cy : Nat → ClassId) (h0 : Nat) (a0 : Nat → Nat) (a1 : Nat → Nat) (s0 : Rc) (s1 : Rc) (p1 : Int32) (p2 : Int32) (res : Int32 × Rc) (h : fX10_alike p1 p2 s0 s1 = some res) : CI l D cy yX10_alike wsX10_alike rmX10_alike [.ref h0, .int p1, .int p2] (flat [WX10 cy h0 a0 s0, WX0 cy (a0 0) a1 s1]) (flat [WX10 cy h0 a0 res.2, WX0 cy (a0 0) a1 s1]) res.1 := by
  refine CI.of (cc := cX10_alike) (maxL := 3) (by decide) rfl (Nat.le_of_ble_eq_true rfl) ?_
  intro p e s m args below meth c A QQ ls E hr
  obtain ⟨hx, hb, hml, hown, hts, hK, hN, hP, hD, hA, hl⟩ := E
  have hret : ∀ (pc : Nat) (H : Heap) (locs : List Loc) (ls : Array Slot) (u : Int32 × Rc), u = res → va_P D vwCl (flat [WX10 cy h0 a0 u.2, WX0 cy (a0 0) a1 s1]) H → va_D A (flat [WX10 cy h0 a0 u.2, WX0 cy (a0 0) a1 s1]) → va_S A s.heap H locs → decode cX10_alike pc = .ok (.ireturn, 1) → W p l e rmX10_alike s m args below meth c H locs 0 0 QQ (F0 m pc ls [.int u.1]) := by
    intro pc H locs ls u hu hP hD hS hd; subst hu; exact hr pc H locs ls _ rfl hP hD hS hd
  clear hr
  have hl : lv_has ls 3 [(0, .ref h0), (1, .int p1), (2, .int p2)] := hl
  have hinX10 : ∀ w ∈ wsX100, w ∈ wsX10_alike := fun _ h => List.mem_cons_of_mem _ (List.mem_append_left _ (List.mem_append_right _ h))
  unfold fX10_alike at h
  suffices key : ∀ (H : Heap) (locs : List Loc), va_P D vwCl (flat [WX10 cy h0 a0 s0, WX0 cy (a0 0) a1 s1]) H → va_S A s.heap H locs → W p l e rmX10_alike s m args below meth c H locs 0 0 QQ (F0 m 0 ls []) from key _ _ hP va_S.rf
  clear hP
  intro H locs hP hS
  refine lv_aload_n hx hb dX10_alike_0 rfl (lv_at hl 0 rfl) ?_
  refine lv_iload_n hx hb dX10_alike_1 rfl (lv_at hl 1 rfl) ?_
  refine lv_iload_n hx hb dX10_alike_2 rfl (lv_at hl 2 rfl) ?_
  refine ca_z (w' := [WX10 cy h0 a0 s0, WX0 cy (a0 0) a1 s1]) (rn_V (As := [.int p1, .int p2]) (rest := []) ⟨hx, hb, hml, hown, hts⟩ (kX10_noCouple l D cy h0 a0 a1 s0 s1 p1 p2 _ rfl H.size) (cwV 2 hts gX10_alike_X10_noCouple rfl rfl rfl (by decide +kernel) ⟨Nat.le_of_ble_eq_true rfl, Nat.le_of_ble_eq_true rfl⟩) hK hN hP hD [0, 1] rfl rfl (ci := 10) (q0 := 0) rfl rfl rfl rfl hl.1 rfl (Nat.le_of_ble_eq_true rfl) dX10_alike_3 ⟨Nat.le_refl 0, Nat.le_refl 0⟩) hP hD hS hA [0, 1] ⟨rfl, rfl, rfl, rfl⟩ (fun b1 H locs hP hD hS => ?_)
  refine lv_if_eq (tgt := 15) hx hb dX10_alike_6 (by decide) (fun c2 => ?_) (fun c2 => ?_)
  · replace h := (if_pos c2).symm.trans h
    refine lv_aload_n hx hb dX10_alike_15 rfl (lv_at hl 0 rfl) ?_
    refine lv_aload_n hx hb dX10_alike_16 rfl (lv_at hl 0 rfl) ?_
    refine va_get (D := D) (ci := 10) (v := .ref (a0 0)) (C := RX10) (T := TX10) (N := 19) hx hb hts hinX10 hown hK hP 0 rfl rfl 0 (by decide) (hts (.fieldLink RX10 10 "KneeBench" "bench" "LKneeBench$Bench;") (List.mem_of_getElem? (i := 1) rfl)) (fun _ h9 => h9) rfl dX10_alike_17 ?_
    refine lv_iload_n hx hb dX10_alike_20 rfl (lv_at hl 1 rfl) ?_
    refine lv_iload_n hx hb dX10_alike_21 rfl (lv_at hl 2 rfl) ?_
    obtain ⟨r3, hr3, h⟩ := bd_elim h
    refine ca_i (w' := [WX10 cy h0 a0 s0, WX0 cy (a0 0) a1 s1]) (rn_V (As := [.int p1, .int p2]) (rest := [.ref h0]) ⟨hx, hb, hml, hown, hts⟩ (kX0_twingesShared l D cy (a0 0) a1 s1 p1 p2 r3 hr3 H.size) (cwV 2 hts gX10_alike_X0_twingesShared rfl rfl rfl (by decide +kernel) ⟨Nat.le_of_ble_eq_true rfl, Nat.le_of_ble_eq_true rfl⟩) hK hN hP hD [1] rfl rfl (ci := 0) (q0 := 1) rfl rfl rfl rfl hl.1 rfl (Nat.le_of_ble_eq_true rfl) dX10_alike_22 ⟨Nat.le_refl 0, Nat.le_refl 0⟩) hP hD hS hA [1] ⟨rfl, rfl, rfl, rfl⟩ (fun H locs hP hD hS => ?_)
    obtain ⟨r4, hr4, h⟩ := lt_elim h
    refine ca_i (w' := [WX10 cy h0 a0 r4.2, WX0 cy (a0 0) a1 s1]) (rn_V (As := [.int r3]) (rest := []) ⟨hx, hb, hml, hown, hts⟩ (kX10_answer l D cy h0 a0 s0 r3 r4 hr4.symm H.size) (cwV 1 hts gX10_alike_X10_answer rfl rfl rfl (by decide +kernel) ⟨Nat.le_of_ble_eq_true rfl, Nat.le_of_ble_eq_true rfl⟩) hK hN hP hD [0] rfl rfl (ci := 10) (q0 := 0) rfl rfl rfl rfl hl.1 rfl (Nat.le_of_ble_eq_true rfl) dX10_alike_25 ⟨Nat.le_refl 0, Nat.le_refl 0⟩) hP hD hS hA [0] ⟨rfl, rfl, rfl, rfl⟩ (fun H locs hP hD hS => ?_)
    exact hret 28 H locs ls (r4.1, r4.2) (Option.some.inj h) hP hD hS dX10_alike_28
  · replace h := (if_neg c2).symm.trans h
    refine lv_aload_n hx hb dX10_alike_9 rfl (lv_at hl 0 rfl) ?_
    refine lv_iconst (v := 1) hx hb dX10_alike_10 (by decide) ?_
    obtain ⟨r5, hr5, h⟩ := lt_elim h
    refine ca_i (w' := [WX10 cy h0 a0 r5.2, WX0 cy (a0 0) a1 s1]) (rn_V (As := [.int (1 : Int32)]) (rest := []) ⟨hx, hb, hml, hown, hts⟩ (kX10_refuse l D cy h0 a0 s0 (1 : Int32) r5 hr5.symm H.size) (cwV 1 hts gX10_alike_X10_refuse rfl rfl rfl (by decide +kernel) ⟨Nat.le_of_ble_eq_true rfl, Nat.le_of_ble_eq_true rfl⟩) hK hN hP hD [0] rfl rfl (ci := 10) (q0 := 0) rfl rfl rfl rfl hl.1 rfl (Nat.le_of_ble_eq_true rfl) dX10_alike_11 ⟨Nat.le_refl 0, Nat.le_refl 0⟩) hP hD hS hA [0] ⟨rfl, rfl, rfl, rfl⟩ (fun H locs hP hD hS => ?_)
    exact hret 14 H locs ls (r5.1, r5.2) (Option.some.inj h) hP hD hS dX10_alike_14
theorem dX10_allow_0 : decode cX10_allow 0 = .ok (.aload_n 0, 1) := by decide +kernel
theorem dX10_allow_1 : decode cX10_allow 1 = .ok (.iconst 0, 1) := by decide +kernel
theorem dX10_allow_2 : decode cX10_allow 2 = .ok (.putfield 102, 3) := by decide +kernel
theorem dX10_allow_5 : decode cX10_allow 5 = .ok (.iconst 1, 1) := by decide +kernel
theorem dX10_allow_6 : decode cX10_allow 6 = .ok (.ireturn, 1) := by decide +kernel
abbrev rmX10_allow : Room := { frames := 0, cells := 0, slots := 0, locals := 0 }
set_option maxHeartbeats 4000000 in
set_option maxRecDepth 100000 in
theorem kX10_allow (l : Launch) (D : va_G) (cy : Nat → ClassId) (h0 : Nat) (a0 : Nat → Nat) (s0 : Rc) (res : Int32 × Rc) (h : fX10_allow s0 = res) : CZ l D cy yX10_allow wsX10_allow rmX10_allow [.ref h0] (flat [WX10 cy h0 a0 s0]) (flat [WX10 cy h0 a0 res.2]) res.1 := by
  refine CZ.of (cc := cX10_allow) (maxL := 1) (by decide) rfl (Nat.le_of_ble_eq_true rfl) ?_
  intro p e s m args below meth c A QQ ls E hr
  obtain ⟨hx, hb, hml, hown, hts, hK, hN, hP, hD, hA, hl⟩ := E
  have hret : ∀ (pc : Nat) (H : Heap) (locs : List Loc) (ls : Array Slot) (u : Int32 × Rc), u = res → va_P D vwCl (flat [WX10 cy h0 a0 u.2]) H → va_D A (flat [WX10 cy h0 a0 u.2]) → va_S A s.heap H locs → isb u.1 = true → decode cX10_allow pc = .ok (.ireturn, 1) → W p l e rmX10_allow s m args below meth c H locs 0 0 QQ (F0 m pc ls [.int u.1]) := by
    intro pc H locs ls u hu hP hD hS hz hd; subst hu; exact hr pc H locs ls _ rfl hP hD hS hz hd
  clear hr
  have hl : lv_has ls 1 [(0, .ref h0)] := hl
  have hinX10 : ∀ w ∈ wsX100, w ∈ wsX10_allow := fun _ h => List.mem_cons_of_mem _ (List.mem_append_right _ h)
  unfold fX10_allow at h
  suffices key : ∀ (H : Heap) (locs : List Loc), va_P D vwCl (flat [WX10 cy h0 a0 s0]) H → va_S A s.heap H locs → W p l e rmX10_allow s m args below meth c H locs 0 0 QQ (F0 m 0 ls []) from key _ _ hP va_S.rf
  clear hP
  intro H locs hP hS
  refine lv_aload_n hx hb dX10_allow_0 rfl (lv_at hl 0 rfl) ?_
  refine lv_iconst (v := 0) hx hb dX10_allow_1 (by decide) ?_
  obtain ⟨s0_1, es, h⟩ := lt_elim h
  refine va_put (D := D) (ci := 10) (v := .int (0 : Int32)) (ty := .int) (C := RX10) (T := TX10) (N := 19) hx hb hts hinX10 tyX10 tyX10_ok nmX10 hown hK hP hD hS 0 rfl rfl 16 (by decide) (hts (.fieldLink RX10 102 "KneeBench" "latestStatus" "I") (List.mem_of_getElem? (i := 1) rfl)) (fun _ h9 => h9) rfl (by decide +kernel) rfl rfl (Nat.le_of_ble_eq_true rfl) dX10_allow_2 (fun H locs hP hD hS => ?_)
  have hP : va_P D vwCl (flat [WX10 cy h0 a0 s0_1]) H := by rw [es]; exact hP
  have hD : va_D A (flat [WX10 cy h0 a0 s0_1]) := by rw [es]; exact hD
  clear es
  refine lv_iconst (v := 1) hx hb dX10_allow_5 (by decide) ?_
  exact hret 6 H locs ls ((1 : Int32), s0_1) h hP hD hS (show isb (1 : Int32) = true by decide) dX10_allow_6
set_option maxRecDepth 20000 in
theorem ggX10_answerIfAny_X10_refuse : GoodIn wsX10_answerIfAny wsX10_refuse := goodIn_r _ [5, 6, 11, 12, 13, 14, 15, 16, 17, 18, 19, 20, 21, 22, 23, 24, 25, 26, 27, 28, 29] (by decide +kernel) (by decide +kernel)
set_option maxRecDepth 20000 in
theorem gX10_answerIfAny_X10_refuse : GoodIn wsX10_answerIfAny (wsV RX10 139 RX10 yX10_refuse wsX10_refuse) := goodIn_app (goodIn_of _ (by decide +kernel)) ggX10_answerIfAny_X10_refuse
set_option maxRecDepth 20000 in
theorem ggX10_answerIfAny_X10_answer : GoodIn wsX10_answerIfAny wsX10_answer := goodIn_r _ [10, 6, 11, 12, 13, 14, 15, 16, 17, 18, 19, 20, 21, 22, 23, 24, 25, 26, 27, 28, 29] (by decide +kernel) (by decide +kernel)
set_option maxRecDepth 20000 in
theorem gX10_answerIfAny_X10_answer : GoodIn wsX10_answerIfAny (wsV RX10 181 RX10 yX10_answer wsX10_answer) := goodIn_app (goodIn_of _ (by decide +kernel)) ggX10_answerIfAny_X10_answer
theorem dX10_answerIfAny_0 : decode cX10_answerIfAny 0 = .ok (.iload_n 1, 1) := by decide +kernel
theorem dX10_answerIfAny_1 : decode cX10_answerIfAny 1 = .ok (.iconst (-1), 1) := by decide +kernel
theorem dX10_answerIfAny_2 : decode cX10_answerIfAny 2 = .ok (.if_icmp .ne 12, 3) := by decide +kernel
theorem dX10_answerIfAny_5 : decode cX10_answerIfAny 5 = .ok (.aload_n 0, 1) := by decide +kernel
theorem dX10_answerIfAny_6 : decode cX10_answerIfAny 6 = .ok (.bipush 6, 2) := by decide +kernel
theorem dX10_answerIfAny_8 : decode cX10_answerIfAny 8 = .ok (.invokevirtual 139, 3) := by decide +kernel
theorem dX10_answerIfAny_11 : decode cX10_answerIfAny 11 = .ok (.goto 8, 3) := by decide +kernel
theorem dX10_answerIfAny_14 : decode cX10_answerIfAny 14 = .ok (.aload_n 0, 1) := by decide +kernel
theorem dX10_answerIfAny_15 : decode cX10_answerIfAny 15 = .ok (.iload_n 1, 1) := by decide +kernel
theorem dX10_answerIfAny_16 : decode cX10_answerIfAny 16 = .ok (.invokevirtual 181, 3) := by decide +kernel
theorem dX10_answerIfAny_19 : decode cX10_answerIfAny 19 = .ok (.ireturn, 1) := by decide +kernel
abbrev rmX10_answerIfAny : Room := { frames := 1, cells := 0, slots := 0, locals := 21 }
set_option maxHeartbeats 4000000 in
set_option maxRecDepth 100000 in
theorem kX10_answerIfAny (l : Launch) (D : va_G) (cy : Nat → ClassId) (h0 : Nat) (a0 : Nat → Nat) (s0 : Rc) (p1 : Int32) (res : Int32 × Rc) (h : fX10_answerIfAny p1 s0 = res) : CI l D cy yX10_answerIfAny wsX10_answerIfAny rmX10_answerIfAny [.ref h0, .int p1] (flat [WX10 cy h0 a0 s0]) (flat [WX10 cy h0 a0 res.2]) res.1 := by
  refine CI.of (cc := cX10_answerIfAny) (maxL := 2) (by decide) rfl (Nat.le_of_ble_eq_true rfl) ?_
  intro p e s m args below meth c A QQ ls E hr
  obtain ⟨hx, hb, hml, hown, hts, hK, hN, hP, hD, hA, hl⟩ := E
  have hret : ∀ (pc : Nat) (H : Heap) (locs : List Loc) (ls : Array Slot) (u : Int32 × Rc), u = res → va_P D vwCl (flat [WX10 cy h0 a0 u.2]) H → va_D A (flat [WX10 cy h0 a0 u.2]) → va_S A s.heap H locs → decode cX10_answerIfAny pc = .ok (.ireturn, 1) → W p l e rmX10_answerIfAny s m args below meth c H locs 0 0 QQ (F0 m pc ls [.int u.1]) := by
    intro pc H locs ls u hu hP hD hS hd; subst hu; exact hr pc H locs ls _ rfl hP hD hS hd
  clear hr
  have hl : lv_has ls 2 [(0, .ref h0), (1, .int p1)] := hl
  unfold fX10_answerIfAny at h
  suffices key : ∀ (H : Heap) (locs : List Loc), va_P D vwCl (flat [WX10 cy h0 a0 s0]) H → va_S A s.heap H locs → W p l e rmX10_answerIfAny s m args below meth c H locs 0 0 QQ (F0 m 0 ls []) from key _ _ hP va_S.rf
  clear hP
  intro H locs hP hS
  refine lv_iload_n hx hb dX10_answerIfAny_0 rfl (lv_at hl 1 rfl) ?_
  refine lv_iconst (v := -1) hx hb dX10_answerIfAny_1 (by decide) ?_
  refine lv_icmp_ne (tgt := 14) hx hb dX10_answerIfAny_2 (by decide) (fun c1 => ?_) (fun c1 => ?_)
  · replace h := (if_neg c1).symm.trans h
    refine lv_aload_n hx hb dX10_answerIfAny_14 rfl (lv_at hl 0 rfl) ?_
    refine lv_iload_n hx hb dX10_answerIfAny_15 rfl (lv_at hl 1 rfl) ?_
    obtain ⟨r2, hr2, h⟩ := lt_elim h
    refine ca_i (w' := [WX10 cy h0 a0 r2.2]) (rn_V (As := [.int p1]) (rest := []) ⟨hx, hb, hml, hown, hts⟩ (kX10_answer l D cy h0 a0 s0 p1 r2 hr2.symm H.size) (cwV 1 hts gX10_answerIfAny_X10_answer rfl rfl rfl (by decide +kernel) ⟨Nat.le_of_ble_eq_true rfl, Nat.le_of_ble_eq_true rfl⟩) hK hN hP hD [0] rfl rfl (ci := 10) (q0 := 0) rfl rfl rfl rfl hl.1 rfl (Nat.le_of_ble_eq_true rfl) dX10_answerIfAny_16 ⟨Nat.le_refl 0, Nat.le_refl 0⟩) hP hD hS hA [0] ⟨rfl, rfl, rfl, rfl⟩ (fun H locs hP hD hS => ?_)
    exact hret 19 H locs ls (r2.1, r2.2) h hP hD hS dX10_answerIfAny_19
  · replace h := (if_pos c1).symm.trans h
    refine lv_aload_n hx hb dX10_answerIfAny_5 rfl (lv_at hl 0 rfl) ?_
    refine lv_bipush (v := 6) hx hb dX10_answerIfAny_6 (by decide) ?_
    obtain ⟨r3, hr3, h⟩ := lt_elim h
    refine ca_i (w' := [WX10 cy h0 a0 r3.2]) (rn_V (As := [.int (6 : Int32)]) (rest := []) ⟨hx, hb, hml, hown, hts⟩ (kX10_refuse l D cy h0 a0 s0 (6 : Int32) r3 hr3.symm H.size) (cwV 1 hts gX10_answerIfAny_X10_refuse rfl rfl rfl (by decide +kernel) ⟨Nat.le_of_ble_eq_true rfl, Nat.le_of_ble_eq_true rfl⟩) hK hN hP hD [0] rfl rfl (ci := 10) (q0 := 0) rfl rfl rfl rfl hl.1 rfl (Nat.le_of_ble_eq_true rfl) dX10_answerIfAny_8 ⟨Nat.le_refl 0, Nat.le_refl 0⟩) hP hD hS hA [0] ⟨rfl, rfl, rfl, rfl⟩ (fun H locs hP hD hS => ?_)
    refine lv_goto (tgt := 19) hx hb dX10_answerIfAny_11 (by decide) ?_
    exact hret 19 H locs ls (r3.1, r3.2) h hP hD hS dX10_answerIfAny_19
set_option maxRecDepth 20000 in
theorem ggX10_noToldDay_X10_outside : GoodIn wsX10_noToldDay wsX10_outside := goodIn_r _ [4] (by decide +kernel) (by decide +kernel)
set_option maxRecDepth 20000 in
theorem gX10_noToldDay_X10_outside : GoodIn wsX10_noToldDay (va_wsS RX10 116 yX10_outside wsX10_outside) := goodIn_app (goodIn_of _ (by decide +kernel)) ggX10_noToldDay_X10_outside
theorem dX10_noToldDay_0 : decode cX10_noToldDay 0 = .ok (.iload_n 0, 1) := by decide +kernel
theorem dX10_noToldDay_1 : decode cX10_noToldDay 1 = .ok (.iconst 0, 1) := by decide +kernel
theorem dX10_noToldDay_2 : decode cX10_noToldDay 2 = .ok (.bipush 62, 2) := by decide +kernel
theorem dX10_noToldDay_4 : decode cX10_noToldDay 4 = .ok (.invokestatic 116, 3) := by decide +kernel
theorem dX10_noToldDay_7 : decode cX10_noToldDay 7 = .ok (.ireturn, 1) := by decide +kernel
abbrev rmX10_noToldDay : Room := { frames := 1, cells := 0, slots := 0, locals := 22 }
set_option maxHeartbeats 4000000 in
set_option maxRecDepth 100000 in
theorem kX10_noToldDay (l : Launch) (D : va_G) (cy : Nat → ClassId) (p1 : Int32) (res : Int32) (h : fX10_noToldDay p1 = res) : CZ l D cy yX10_noToldDay wsX10_noToldDay rmX10_noToldDay [.int p1] (flat []) (flat []) res := by
  refine CZ.of (cc := cX10_noToldDay) (maxL := 1) (by decide) rfl (Nat.le_of_ble_eq_true rfl) ?_
  intro p e s m args below meth c A QQ ls E hr
  obtain ⟨hx, hb, hml, hown, hts, hK, hN, hP, hD, hA, hl⟩ := E
  have hret : ∀ (pc : Nat) (H : Heap) (locs : List Loc) (ls : Array Slot) (u : Int32), u = res → va_P D vwCl (flat []) H → va_D A (flat []) → va_S A s.heap H locs → isb u = true → decode cX10_noToldDay pc = .ok (.ireturn, 1) → W p l e rmX10_noToldDay s m args below meth c H locs 0 0 QQ (F0 m pc ls [.int u]) := by
    intro pc H locs ls u hu hP hD hS hz hd; subst hu; exact hr pc H locs ls _ rfl hP hD hS hz hd
  clear hr
  have hl : lv_has ls 1 [(0, .int p1)] := hl
  unfold fX10_noToldDay at h
  suffices key : ∀ (H : Heap) (locs : List Loc), va_P D vwCl (flat []) H → va_S A s.heap H locs → W p l e rmX10_noToldDay s m args below meth c H locs 0 0 QQ (F0 m 0 ls []) from key _ _ hP va_S.rf
  clear hP
  intro H locs hP hS
  refine lv_iload_n hx hb dX10_noToldDay_0 rfl (lv_at hl 0 rfl) ?_
  refine lv_iconst (v := 0) hx hb dX10_noToldDay_1 (by decide) ?_
  refine lv_bipush (v := 62) hx hb dX10_noToldDay_2 (by decide) ?_
  refine ca_z (w' := []) (rn_S (As := [.int p1, .int (0 : Int32), .int (62 : Int32)]) (rest := []) ⟨hx, hb, hml, hown, hts⟩ (kX10_outside l D cy p1 (0 : Int32) (62 : Int32) _ rfl H.size) (va_cwS 3 hts gX10_noToldDay_X10_outside rfl rfl rfl (by decide +kernel) ⟨Nat.le_of_ble_eq_true rfl, Nat.le_of_ble_eq_true rfl⟩) hK hN hP hD [] rfl rfl rfl hl.1 rfl (Nat.le_of_ble_eq_true rfl) dX10_noToldDay_4 ⟨Nat.le_refl 0, Nat.le_refl 0⟩) hP hD hS hA [] ⟨rfl, rfl, rfl, rfl⟩ (fun b1 H locs hP hD hS => ?_)
  exact hret 7 H locs ls (fX10_outside p1 (0 : Int32) (62 : Int32)) h hP hD hS b1 dX10_noToldDay_7
set_option maxRecDepth 20000 in
theorem ggX10_believers_X10_noToldDay : GoodIn wsX10_believers wsX10_noToldDay := goodIn_r _ [5, 6, 7, 4, 8] (by decide +kernel) (by decide +kernel)
set_option maxRecDepth 20000 in
theorem gX10_believers_X10_noToldDay : GoodIn wsX10_believers (va_wsS RX10 281 yX10_noToldDay wsX10_noToldDay) := goodIn_app (goodIn_of _ (by decide +kernel)) ggX10_believers_X10_noToldDay
set_option maxRecDepth 20000 in
theorem ggX10_believers_X10_refuse : GoodIn wsX10_believers wsX10_refuse := goodIn_r _ [12, 13, 40, 41, 42, 43, 44, 45, 46, 47, 48, 49, 50, 51, 52, 53, 54, 55, 56, 57, 58] (by decide +kernel) (by decide +kernel)
set_option maxRecDepth 20000 in
theorem gX10_believers_X10_refuse : GoodIn wsX10_believers (wsV RX10 139 RX10 yX10_refuse wsX10_refuse) := goodIn_app (goodIn_of _ (by decide +kernel)) ggX10_believers_X10_refuse
set_option maxRecDepth 20000 in
theorem ggX10_believers_X0_believersOf : GoodIn wsX10_believers wsX0_believersOf := goodIn_r _ [18, 19, 20, 21, 22, 17, 23, 24, 25, 26, 27, 28, 29, 30, 31, 32, 33, 34, 35, 59, 60, 61, 62, 63, 64, 65, 66, 67, 68, 69, 70, 71, 72] (by decide +kernel) (by decide +kernel)
set_option maxRecDepth 20000 in
theorem gX10_believers_X0_believersOf : GoodIn wsX10_believers (wsV RX10 366 RX0 yX0_believersOf wsX0_believersOf) := goodIn_app (goodIn_of _ (by decide +kernel)) ggX10_believers_X0_believersOf
set_option maxRecDepth 20000 in
theorem ggX10_believers_X10_answer : GoodIn wsX10_believers wsX10_answer := goodIn_r _ [39, 13, 40, 41, 42, 43, 44, 45, 46, 47, 48, 49, 50, 51, 52, 53, 54, 55, 56, 57, 58] (by decide +kernel) (by decide +kernel)
set_option maxRecDepth 20000 in
theorem gX10_believers_X10_answer : GoodIn wsX10_believers (wsV RX10 181 RX10 yX10_answer wsX10_answer) := goodIn_app (goodIn_of _ (by decide +kernel)) ggX10_believers_X10_answer
theorem dX10_believers_0 : decode cX10_believers 0 = .ok (.iload_n 1, 1) := by decide +kernel
theorem dX10_believers_1 : decode cX10_believers 1 = .ok (.invokestatic 281, 3) := by decide +kernel
theorem dX10_believers_4 : decode cX10_believers 4 = .ok (.ifCond .eq 9, 3) := by decide +kernel
theorem dX10_believers_7 : decode cX10_believers 7 = .ok (.aload_n 0, 1) := by decide +kernel
theorem dX10_believers_8 : decode cX10_believers 8 = .ok (.iconst 1, 1) := by decide +kernel
theorem dX10_believers_9 : decode cX10_believers 9 = .ok (.invokevirtual 139, 3) := by decide +kernel
theorem dX10_believers_12 : decode cX10_believers 12 = .ok (.ireturn, 1) := by decide +kernel
theorem dX10_believers_13 : decode cX10_believers 13 = .ok (.aload_n 0, 1) := by decide +kernel
theorem dX10_believers_14 : decode cX10_believers 14 = .ok (.aload_n 0, 1) := by decide +kernel
theorem dX10_believers_15 : decode cX10_believers 15 = .ok (.getfield 10, 3) := by decide +kernel
theorem dX10_believers_18 : decode cX10_believers 18 = .ok (.iload_n 1, 1) := by decide +kernel
theorem dX10_believers_19 : decode cX10_believers 19 = .ok (.invokevirtual 366, 3) := by decide +kernel
theorem dX10_believers_22 : decode cX10_believers 22 = .ok (.invokevirtual 181, 3) := by decide +kernel
theorem dX10_believers_25 : decode cX10_believers 25 = .ok (.ireturn, 1) := by decide +kernel
abbrev rmX10_believers : Room := { frames := 3, cells := 0, slots := 0, locals := 68 }
set_option maxHeartbeats 4000000 in
set_option maxRecDepth 100000 in
theorem kX10_believers (l : Launch) (D : va_G) (cy : Nat → ClassId) (h0 : Nat) (a0 : Nat → Nat) (a1 : Nat → Nat) (s0 : Rc) (s1 : Rc) (p1 : Int32) (res : Int32 × Rc) (h : fX10_believers p1 s0 s1 = some res) : CI l D cy yX10_believers wsX10_believers rmX10_believers [.ref h0, .int p1] (flat [WX10 cy h0 a0 s0, WX0 cy (a0 0) a1 s1]) (flat [WX10 cy h0 a0 res.2, WX0 cy (a0 0) a1 s1]) res.1 := by
  refine CI.of (cc := cX10_believers) (maxL := 2) (by decide) rfl (Nat.le_of_ble_eq_true rfl) ?_
  intro p e s m args below meth c A QQ ls E hr
  obtain ⟨hx, hb, hml, hown, hts, hK, hN, hP, hD, hA, hl⟩ := E
  have hret : ∀ (pc : Nat) (H : Heap) (locs : List Loc) (ls : Array Slot) (u : Int32 × Rc), u = res → va_P D vwCl (flat [WX10 cy h0 a0 u.2, WX0 cy (a0 0) a1 s1]) H → va_D A (flat [WX10 cy h0 a0 u.2, WX0 cy (a0 0) a1 s1]) → va_S A s.heap H locs → decode cX10_believers pc = .ok (.ireturn, 1) → W p l e rmX10_believers s m args below meth c H locs 0 0 QQ (F0 m pc ls [.int u.1]) := by
    intro pc H locs ls u hu hP hD hS hd; subst hu; exact hr pc H locs ls _ rfl hP hD hS hd
  clear hr
  have hl : lv_has ls 2 [(0, .ref h0), (1, .int p1)] := hl
  have hinX10 : ∀ w ∈ wsX100, w ∈ wsX10_believers := fun _ h => List.mem_cons_of_mem _ (List.mem_append_left _ (List.mem_append_right _ h))
  unfold fX10_believers at h
  suffices key : ∀ (H : Heap) (locs : List Loc), va_P D vwCl (flat [WX10 cy h0 a0 s0, WX0 cy (a0 0) a1 s1]) H → va_S A s.heap H locs → W p l e rmX10_believers s m args below meth c H locs 0 0 QQ (F0 m 0 ls []) from key _ _ hP va_S.rf
  clear hP
  intro H locs hP hS
  refine lv_iload_n hx hb dX10_believers_0 rfl (lv_at hl 1 rfl) ?_
  refine ca_z (w' := [WX10 cy h0 a0 s0, WX0 cy (a0 0) a1 s1]) (rn_S (As := [.int p1]) (rest := []) ⟨hx, hb, hml, hown, hts⟩ (kX10_noToldDay l D cy p1 _ rfl H.size) (va_cwS 1 hts gX10_believers_X10_noToldDay rfl rfl rfl (by decide +kernel) ⟨Nat.le_of_ble_eq_true rfl, Nat.le_of_ble_eq_true rfl⟩) hK hN hP hD [] rfl rfl rfl hl.1 rfl (Nat.le_of_ble_eq_true rfl) dX10_believers_1 ⟨Nat.le_refl 0, Nat.le_refl 0⟩) hP hD hS hA [] ⟨rfl, rfl, rfl, rfl⟩ (fun b1 H locs hP hD hS => ?_)
  refine lv_if_eq (tgt := 13) hx hb dX10_believers_4 (by decide) (fun c2 => ?_) (fun c2 => ?_)
  · replace h := (if_pos c2).symm.trans h
    refine lv_aload_n hx hb dX10_believers_13 rfl (lv_at hl 0 rfl) ?_
    refine lv_aload_n hx hb dX10_believers_14 rfl (lv_at hl 0 rfl) ?_
    refine va_get (D := D) (ci := 10) (v := .ref (a0 0)) (C := RX10) (T := TX10) (N := 19) hx hb hts hinX10 hown hK hP 0 rfl rfl 0 (by decide) (hts (.fieldLink RX10 10 "KneeBench" "bench" "LKneeBench$Bench;") (List.mem_of_getElem? (i := 1) rfl)) (fun _ h9 => h9) rfl dX10_believers_15 ?_
    refine lv_iload_n hx hb dX10_believers_18 rfl (lv_at hl 1 rfl) ?_
    obtain ⟨r3, hr3, h⟩ := bd_elim h
    refine ca_i (w' := [WX10 cy h0 a0 s0, WX0 cy (a0 0) a1 s1]) (rn_V (As := [.int p1]) (rest := [.ref h0]) ⟨hx, hb, hml, hown, hts⟩ (kX0_believersOf l D cy (a0 0) a1 s1 p1 r3 hr3 H.size) (cwV 1 hts gX10_believers_X0_believersOf rfl rfl rfl (by decide +kernel) ⟨Nat.le_of_ble_eq_true rfl, Nat.le_of_ble_eq_true rfl⟩) hK hN hP hD [1] rfl rfl (ci := 0) (q0 := 1) rfl rfl rfl rfl hl.1 rfl (Nat.le_of_ble_eq_true rfl) dX10_believers_19 ⟨Nat.le_refl 0, Nat.le_refl 0⟩) hP hD hS hA [1] ⟨rfl, rfl, rfl, rfl⟩ (fun H locs hP hD hS => ?_)
    obtain ⟨r4, hr4, h⟩ := lt_elim h
    refine ca_i (w' := [WX10 cy h0 a0 r4.2, WX0 cy (a0 0) a1 s1]) (rn_V (As := [.int r3]) (rest := []) ⟨hx, hb, hml, hown, hts⟩ (kX10_answer l D cy h0 a0 s0 r3 r4 hr4.symm H.size) (cwV 1 hts gX10_believers_X10_answer rfl rfl rfl (by decide +kernel) ⟨Nat.le_of_ble_eq_true rfl, Nat.le_of_ble_eq_true rfl⟩) hK hN hP hD [0] rfl rfl (ci := 10) (q0 := 0) rfl rfl rfl rfl hl.1 rfl (Nat.le_of_ble_eq_true rfl) dX10_believers_22 ⟨Nat.le_refl 0, Nat.le_refl 0⟩) hP hD hS hA [0] ⟨rfl, rfl, rfl, rfl⟩ (fun H locs hP hD hS => ?_)
    exact hret 25 H locs ls (r4.1, r4.2) (Option.some.inj h) hP hD hS dX10_believers_25
  · replace h := (if_neg c2).symm.trans h
    refine lv_aload_n hx hb dX10_believers_7 rfl (lv_at hl 0 rfl) ?_
    refine lv_iconst (v := 1) hx hb dX10_believers_8 (by decide) ?_
    obtain ⟨r5, hr5, h⟩ := lt_elim h
    refine ca_i (w' := [WX10 cy h0 a0 r5.2, WX0 cy (a0 0) a1 s1]) (rn_V (As := [.int (1 : Int32)]) (rest := []) ⟨hx, hb, hml, hown, hts⟩ (kX10_refuse l D cy h0 a0 s0 (1 : Int32) r5 hr5.symm H.size) (cwV 1 hts gX10_believers_X10_refuse rfl rfl rfl (by decide +kernel) ⟨Nat.le_of_ble_eq_true rfl, Nat.le_of_ble_eq_true rfl⟩) hK hN hP hD [0] rfl rfl (ci := 10) (q0 := 0) rfl rfl rfl rfl hl.1 rfl (Nat.le_of_ble_eq_true rfl) dX10_believers_9 ⟨Nat.le_refl 0, Nat.le_refl 0⟩) hP hD hS hA [0] ⟨rfl, rfl, rfl, rfl⟩ (fun H locs hP hD hS => ?_)
    exact hret 12 H locs ls (r5.1, r5.2) (Option.some.inj h) hP hD hS dX10_believers_12
set_option maxRecDepth 20000 in
theorem ggX10_bench_X10_outside : GoodIn wsX10_bench wsX10_outside := goodIn_r _ [9] (by decide +kernel) (by decide +kernel)
set_option maxRecDepth 20000 in
theorem gX10_bench_X10_outside : GoodIn wsX10_bench (va_wsS RX10 116 yX10_outside wsX10_outside) := goodIn_app (goodIn_of _ (by decide +kernel)) ggX10_bench_X10_outside
set_option maxRecDepth 20000 in
theorem ggX10_bench_X10_refuse : GoodIn wsX10_bench wsX10_refuse := goodIn_r _ [13, 14, 228, 229, 230, 231, 232, 233, 234, 235, 236, 237, 238, 239, 240, 241, 242, 243, 244, 245, 246] (by decide +kernel) (by decide +kernel)
set_option maxRecDepth 20000 in
theorem gX10_bench_X10_refuse : GoodIn wsX10_bench (wsV RX10 139 RX10 yX10_refuse wsX10_refuse) := goodIn_app (goodIn_of _ (by decide +kernel)) ggX10_bench_X10_refuse
set_option maxRecDepth 20000 in
theorem ggX10_bench_X1_isRead : GoodIn wsX10_bench wsX1_isRead := goodIn_r _ [19, 20, 21, 22, 23, 24, 25, 26, 27, 28, 29, 30, 31, 32, 33, 34, 35, 36, 37, 38, 39, 40, 41, 42, 43, 44, 45, 46, 47, 48, 49, 50, 51, 52, 53, 54, 55, 56, 57, 58, 59, 60, 61, 62, 63, 64, 65, 66, 67, 68, 69, 70, 71, 72, 73, 74, 75, 76, 77, 78, 79, 80, 18, 81, 82, 83, 84, 85, 86, 87, 88, 89, 90, 91, 92, 93, 94, 95, 96, 97, 98, 99, 100, 101, 102, 103, 104, 105, 106, 8, 107, 108, 109, 110, 111, 112, 7, 9, 113, 114, 115, 116, 117, 118, 119, 120, 121, 122, 123, 124, 125, 126, 127, 128, 129, 130, 131, 132, 133, 134, 135, 136, 137, 138, 139, 140, 141, 142, 143, 144, 145, 146, 147, 148, 149, 150, 151, 152, 153, 154, 155, 156, 157, 158, 159, 160, 161, 162, 163, 164, 165, 166, 167, 168, 169, 170, 171, 172, 173, 174, 175, 176, 177, 178, 179, 180, 181, 182, 183, 184, 185, 186, 187, 188, 189, 190, 191, 192, 193, 194, 195, 196, 197, 198, 199, 200, 201, 202, 203, 204, 205, 275, 276, 277, 278, 261, 262, 263, 264, 265, 266, 267, 268, 269, 270, 271, 272, 273, 274, 247, 248, 249, 250, 251, 252, 253, 254, 255, 256, 257, 258, 259, 260] (by decide +kernel) (by decide +kernel)
set_option maxRecDepth 20000 in
theorem gX10_bench_X1_isRead : GoodIn wsX10_bench (wsV RX10 168 RX1 yX1_isRead wsX1_isRead) := goodIn_app (goodIn_of _ (by decide +kernel)) ggX10_bench_X1_isRead
set_option maxRecDepth 20000 in
theorem ggX10_bench_X0_copyFrom : GoodIn wsX10_bench wsX0_copyFrom := goodIn_r _ [209, 97, 210, 211, 212, 213, 184, 214, 215, 199, 178, 179, 34, 28, 29, 30, 31, 32, 33, 261, 262, 263, 264, 265, 266, 267, 268, 269, 270, 271, 272, 273, 274] (by decide +kernel) (by decide +kernel)
set_option maxRecDepth 20000 in
theorem gX10_bench_X0_copyFrom : GoodIn wsX10_bench (wsV RX10 171 RX0 yX0_copyFrom wsX0_copyFrom) := goodIn_app (goodIn_of _ (by decide +kernel)) ggX10_bench_X0_copyFrom
set_option maxRecDepth 20000 in
theorem ggX10_bench_X5_empty : GoodIn wsX10_bench wsX5_empty := goodIn_r _ [220, 221, 222, 223, 279, 280, 281, 282, 283, 284, 285, 286] (by decide +kernel) (by decide +kernel)
set_option maxRecDepth 20000 in
theorem gX10_bench_X5_empty : GoodIn wsX10_bench (wsV RX10 175 RX5 yX5_empty wsX5_empty) := goodIn_app (goodIn_of _ (by decide +kernel)) ggX10_bench_X5_empty
set_option maxRecDepth 20000 in
theorem ggX10_bench_X10_answer : GoodIn wsX10_bench wsX10_answer := goodIn_r _ [227, 14, 228, 229, 230, 231, 232, 233, 234, 235, 236, 237, 238, 239, 240, 241, 242, 243, 244, 245, 246] (by decide +kernel) (by decide +kernel)
set_option maxRecDepth 20000 in
theorem gX10_bench_X10_answer : GoodIn wsX10_bench (wsV RX10 181 RX10 yX10_answer wsX10_answer) := goodIn_app (goodIn_of _ (by decide +kernel)) ggX10_bench_X10_answer
theorem dX10_bench_0 : decode cX10_bench 0 = .ok (.iload_n 1, 1) := by decide +kernel
theorem dX10_bench_1 : decode cX10_bench 1 = .ok (.iconst 0, 1) := by decide +kernel
theorem dX10_bench_2 : decode cX10_bench 2 = .ok (.aload_n 0, 1) := by decide +kernel
theorem dX10_bench_3 : decode cX10_bench 3 = .ok (.getfield 52, 3) := by decide +kernel
theorem dX10_bench_6 : decode cX10_bench 6 = .ok (.getfield 161, 3) := by decide +kernel
theorem dX10_bench_9 : decode cX10_bench 9 = .ok (.invokestatic 116, 3) := by decide +kernel
theorem dX10_bench_12 : decode cX10_bench 12 = .ok (.ifCond .eq 9, 3) := by decide +kernel
theorem dX10_bench_15 : decode cX10_bench 15 = .ok (.aload_n 0, 1) := by decide +kernel
theorem dX10_bench_16 : decode cX10_bench 16 = .ok (.iconst 1, 1) := by decide +kernel
theorem dX10_bench_17 : decode cX10_bench 17 = .ok (.invokevirtual 139, 3) := by decide +kernel
theorem dX10_bench_20 : decode cX10_bench 20 = .ok (.ireturn, 1) := by decide +kernel
theorem dX10_bench_21 : decode cX10_bench 21 = .ok (.aload_n 0, 1) := by decide +kernel
theorem dX10_bench_22 : decode cX10_bench 22 = .ok (.getfield 61, 3) := by decide +kernel
theorem dX10_bench_25 : decode cX10_bench 25 = .ok (.iload_n 1, 1) := by decide +kernel
theorem dX10_bench_26 : decode cX10_bench 26 = .ok (.invokevirtual 168, 3) := by decide +kernel
theorem dX10_bench_29 : decode cX10_bench 29 = .ok (.istore_n 2, 1) := by decide +kernel
theorem dX10_bench_30 : decode cX10_bench 30 = .ok (.aload_n 0, 1) := by decide +kernel
theorem dX10_bench_31 : decode cX10_bench 31 = .ok (.getfield 52, 3) := by decide +kernel
theorem dX10_bench_34 : decode cX10_bench 34 = .ok (.iconst 0, 1) := by decide +kernel
theorem dX10_bench_35 : decode cX10_bench 35 = .ok (.putfield 161, 3) := by decide +kernel
theorem dX10_bench_38 : decode cX10_bench 38 = .ok (.iload_n 2, 1) := by decide +kernel
theorem dX10_bench_39 : decode cX10_bench 39 = .ok (.ifCond .ne 10, 3) := by decide +kernel
theorem dX10_bench_42 : decode cX10_bench 42 = .ok (.aload_n 0, 1) := by decide +kernel
theorem dX10_bench_43 : decode cX10_bench 43 = .ok (.bipush 9, 2) := by decide +kernel
theorem dX10_bench_45 : decode cX10_bench 45 = .ok (.invokevirtual 139, 3) := by decide +kernel
theorem dX10_bench_48 : decode cX10_bench 48 = .ok (.ireturn, 1) := by decide +kernel
theorem dX10_bench_49 : decode cX10_bench 49 = .ok (.aload_n 0, 1) := by decide +kernel
theorem dX10_bench_50 : decode cX10_bench 50 = .ok (.getfield 10, 3) := by decide +kernel
theorem dX10_bench_53 : decode cX10_bench 53 = .ok (.aload_n 0, 1) := by decide +kernel
theorem dX10_bench_54 : decode cX10_bench 54 = .ok (.getfield 23, 3) := by decide +kernel
theorem dX10_bench_57 : decode cX10_bench 57 = .ok (.invokevirtual 171, 3) := by decide +kernel
theorem dX10_bench_60 : decode cX10_bench 60 = .ok (.aload_n 0, 1) := by decide +kernel
theorem dX10_bench_61 : decode cX10_bench 61 = .ok (.getfield 19, 3) := by decide +kernel
theorem dX10_bench_64 : decode cX10_bench 64 = .ok (.invokevirtual 175, 3) := by decide +kernel
theorem dX10_bench_67 : decode cX10_bench 67 = .ok (.aload_n 0, 1) := by decide +kernel
theorem dX10_bench_68 : decode cX10_bench 68 = .ok (.aload_n 0, 1) := by decide +kernel
theorem dX10_bench_69 : decode cX10_bench 69 = .ok (.getfield 10, 3) := by decide +kernel
theorem dX10_bench_72 : decode cX10_bench 72 = .ok (.getfield 178, 3) := by decide +kernel
theorem dX10_bench_75 : decode cX10_bench 75 = .ok (.invokevirtual 181, 3) := by decide +kernel
theorem dX10_bench_78 : decode cX10_bench 78 = .ok (.ireturn, 1) := by decide +kernel
abbrev rmX10_bench : Room := { frames := 7, cells := 0, slots := 0, locals := 151 }
set_option maxHeartbeats 4000000 in
set_option maxRecDepth 100000 in
theorem kX10_bench (l : Launch) (D : va_G) (cy : Nat → ClassId) (h0 : Nat) (a0 : Nat → Nat) (a1 : Nat → Nat) (a2 : Nat → Nat) (a3 : Nat → Nat) (a4 : Nat → Nat) (a5 : Nat → Nat) (s0 : Rc) (s1 : Rc) (s2 : Rc) (s3 : Rc) (s4 : Rc) (s5 : Rc) (p1 : Int32) (res : Int32 × Rc × Rc × Rc × Rc × Rc × Rc) (h : fX10_bench p1 s0 s1 s2 s3 s4 s5 = some res) : CI l D cy yX10_bench wsX10_bench rmX10_bench [.ref h0, .int p1] (flat [WX10 cy h0 a0 s0, WX0 cy (a0 0) a1 s1, WX5 cy (a0 1) a2 s2, WX0 cy (a0 2) a3 s3, WX8 cy (a0 8) a4 s4, WX1 cy (a0 9) (adv [a0 8, a0 2]) s5]) (flat [WX10 cy h0 a0 res.2.1, WX0 cy (a0 0) a1 res.2.2.1, WX5 cy (a0 1) a2 res.2.2.2.1, WX0 cy (a0 2) a3 res.2.2.2.2.1, WX8 cy (a0 8) a4 res.2.2.2.2.2.1, WX1 cy (a0 9) (adv [a0 8, a0 2]) res.2.2.2.2.2.2]) res.1 := by
  refine CI.of (cc := cX10_bench) (maxL := 3) (by decide) rfl (Nat.le_of_ble_eq_true rfl) ?_
  intro p e s m args below meth c A QQ ls E hr
  obtain ⟨hx, hb, hml, hown, hts, hK, hN, hP, hD, hA, hl⟩ := E
  have hret : ∀ (pc : Nat) (H : Heap) (locs : List Loc) (ls : Array Slot) (u : Int32 × Rc × Rc × Rc × Rc × Rc × Rc), u = res → va_P D vwCl (flat [WX10 cy h0 a0 u.2.1, WX0 cy (a0 0) a1 u.2.2.1, WX5 cy (a0 1) a2 u.2.2.2.1, WX0 cy (a0 2) a3 u.2.2.2.2.1, WX8 cy (a0 8) a4 u.2.2.2.2.2.1, WX1 cy (a0 9) (adv [a0 8, a0 2]) u.2.2.2.2.2.2]) H → va_D A (flat [WX10 cy h0 a0 u.2.1, WX0 cy (a0 0) a1 u.2.2.1, WX5 cy (a0 1) a2 u.2.2.2.1, WX0 cy (a0 2) a3 u.2.2.2.2.1, WX8 cy (a0 8) a4 u.2.2.2.2.2.1, WX1 cy (a0 9) (adv [a0 8, a0 2]) u.2.2.2.2.2.2]) → va_S A s.heap H locs → decode cX10_bench pc = .ok (.ireturn, 1) → W p l e rmX10_bench s m args below meth c H locs 0 0 QQ (F0 m pc ls [.int u.1]) := by
    intro pc H locs ls u hu hP hD hS hd; subst hu; exact hr pc H locs ls _ rfl hP hD hS hd
  clear hr
  have hl : lv_has ls 3 [(0, .ref h0), (1, .int p1)] := hl
  have hinX0 : ∀ w ∈ wsX00, w ∈ wsX10_bench := fun _ h => List.mem_cons_of_mem _ (List.mem_append_left _ (List.mem_append_left _ (List.mem_append_right _ h)))
  have hinX10 : ∀ w ∈ wsX100, w ∈ wsX10_bench := fun _ h => List.mem_cons_of_mem _ (List.mem_append_left _ (List.mem_append_left _ (List.mem_append_left _ (List.mem_append_left _ (List.mem_append_right _ h)))))
  have hinX8 : ∀ w ∈ wsX80, w ∈ wsX10_bench := fun _ h => List.mem_cons_of_mem _ (List.mem_append_left _ (List.mem_append_left _ (List.mem_append_left _ (List.mem_append_right _ h))))
  unfold fX10_bench at h
  suffices key : ∀ (H : Heap) (locs : List Loc), va_P D vwCl (flat [WX10 cy h0 a0 s0, WX0 cy (a0 0) a1 s1, WX5 cy (a0 1) a2 s2, WX0 cy (a0 2) a3 s3, WX8 cy (a0 8) a4 s4, WX1 cy (a0 9) (adv [a0 8, a0 2]) s5]) H → va_S A s.heap H locs → W p l e rmX10_bench s m args below meth c H locs 0 0 QQ (F0 m 0 ls []) from key _ _ hP va_S.rf
  clear hP
  intro H locs hP hS
  refine lv_iload_n hx hb dX10_bench_0 rfl (lv_at hl 1 rfl) ?_
  refine lv_iconst (v := 0) hx hb dX10_bench_1 (by decide) ?_
  refine lv_aload_n hx hb dX10_bench_2 rfl (lv_at hl 0 rfl) ?_
  refine va_get (D := D) (ci := 10) (v := .ref (a0 8)) (C := RX10) (T := TX10) (N := 19) hx hb hts hinX10 hown hK hP 0 rfl rfl 8 (by decide) (hts (.fieldLink RX10 52 "KneeBench" "tokens" "LKneeBench$Tokens;") (List.mem_of_getElem? (i := 1) rfl)) (fun _ h9 => h9) rfl dX10_bench_3 ?_
  refine va_getN (D := D) (ci := 8) (v := .int (gi s4 2)) (C := RX8) (T := TX8) (N := 14) hx hb hts hinX8 hown hK hP 25 rfl rfl 2 (by decide) (NW.fld hN 42 rfl _) (fun _ h9 => h9) rfl dX10_bench_6 ?_
  refine ca_z (w' := [WX10 cy h0 a0 s0, WX0 cy (a0 0) a1 s1, WX5 cy (a0 1) a2 s2, WX0 cy (a0 2) a3 s3, WX8 cy (a0 8) a4 s4, WX1 cy (a0 9) (adv [a0 8, a0 2]) s5]) (rn_S (As := [.int p1, .int (0 : Int32), .int (gi s4 2)]) (rest := []) ⟨hx, hb, hml, hown, hts⟩ (kX10_outside l D cy p1 (0 : Int32) (gi s4 2) _ rfl H.size) (va_cwS 3 hts gX10_bench_X10_outside rfl rfl rfl (by decide +kernel) ⟨Nat.le_of_ble_eq_true rfl, Nat.le_of_ble_eq_true rfl⟩) hK hN hP hD [] rfl rfl rfl hl.1 rfl (Nat.le_of_ble_eq_true rfl) dX10_bench_9 ⟨Nat.le_refl 0, Nat.le_refl 0⟩) hP hD hS hA [] ⟨rfl, rfl, rfl, rfl⟩ (fun b1 H locs hP hD hS => ?_)
  refine lv_if_eq (tgt := 21) hx hb dX10_bench_12 (by decide) (fun c2 => ?_) (fun c2 => ?_)
  · replace h := (if_pos c2).symm.trans h
    refine lv_aload_n hx hb dX10_bench_21 rfl (lv_at hl 0 rfl) ?_
    refine va_get (D := D) (ci := 10) (v := .ref (a0 9)) (C := RX10) (T := TX10) (N := 19) hx hb hts hinX10 hown hK hP 0 rfl rfl 9 (by decide) (hts (.fieldLink RX10 61 "KneeBench" "benchText" "LKneeBench$BenchText;") (List.mem_of_getElem? (i := 2) rfl)) (fun _ h9 => h9) rfl dX10_bench_22 ?_
    refine lv_iload_n hx hb dX10_bench_25 rfl (lv_at hl 1 rfl) ?_
    obtain ⟨r3, hr3, h⟩ := bd_elim h
    refine ca_z (w' := [WX10 cy h0 a0 s0, WX0 cy (a0 0) a1 s1, WX5 cy (a0 1) a2 s2, WX0 cy (a0 2) a3 r3.2.2.2, WX8 cy (a0 8) a4 r3.2.2.1, WX1 cy (a0 9) (adv [a0 8, a0 2]) r3.2.1]) (rn_V (As := [.int p1]) (rest := []) ⟨hx, hb, hml, hown, hts⟩ (kX1_isRead l D cy (a0 9) (adv [a0 8, a0 2]) a4 a3 s5 s4 s3 p1 r3 hr3 H.size) (cwV 1 hts gX10_bench_X1_isRead rfl rfl rfl (by decide +kernel) ⟨Nat.le_of_ble_eq_true rfl, Nat.le_of_ble_eq_true rfl⟩) hK hN hP hD [5, 4, 3] rfl rfl (ci := 1) (q0 := 28) rfl rfl rfl rfl hl.1 rfl (Nat.le_of_ble_eq_true rfl) dX10_bench_26 ⟨Nat.le_refl 0, Nat.le_refl 0⟩) hP hD hS hA [5, 4, 3] ⟨rfl, rfl, rfl, rfl⟩ (fun b4 H locs hP hD hS => ?_)
    refine lv_istore_n (lv' := [(2, .int r3.1), (0, .ref h0), (1, .int p1)]) hx hb dX10_bench_29 rfl hl (by decide) rfl (fun ls hl => ?_)
    refine lv_aload_n hx hb dX10_bench_30 rfl (lv_at hl 1 rfl) ?_
    refine va_get (D := D) (ci := 10) (v := .ref (a0 8)) (C := RX10) (T := TX10) (N := 19) hx hb hts hinX10 hown hK hP 0 rfl rfl 8 (by decide) (hts (.fieldLink RX10 52 "KneeBench" "tokens" "LKneeBench$Tokens;") (List.mem_of_getElem? (i := 1) rfl)) (fun _ h9 => h9) rfl dX10_bench_31 ?_
    refine lv_iconst (v := 0) hx hb dX10_bench_34 (by decide) ?_
    obtain ⟨s4_5, es, h⟩ := lt_elim h
    refine va_putN (D := D) (ci := 8) (v := .int (0 : Int32)) (ty := .int) (C := RX8) (T := TX8) (N := 14) hx hb hts hinX8 tyX8 tyX8_ok nmX8 hown hK hP hD hS 25 rfl rfl 2 (by decide) (NW.fld hN 42 rfl _) (fun _ h9 => h9) rfl (by decide +kernel) rfl rfl (Nat.le_of_ble_eq_true rfl) dX10_bench_35 (fun H locs hP hD hS => ?_)
    have hP : va_P D vwCl (flat [WX10 cy h0 a0 s0, WX0 cy (a0 0) a1 s1, WX5 cy (a0 1) a2 s2, WX0 cy (a0 2) a3 r3.2.2.2, WX8 cy (a0 8) a4 s4_5, WX1 cy (a0 9) (adv [a0 8, a0 2]) r3.2.1]) H := by rw [es]; exact hP
    have hD : va_D A (flat [WX10 cy h0 a0 s0, WX0 cy (a0 0) a1 s1, WX5 cy (a0 1) a2 s2, WX0 cy (a0 2) a3 r3.2.2.2, WX8 cy (a0 8) a4 s4_5, WX1 cy (a0 9) (adv [a0 8, a0 2]) r3.2.1]) := by rw [es]; exact hD
    clear es
    refine lv_iload_n hx hb dX10_bench_38 rfl (lv_at hl 0 rfl) ?_
    refine lv_if_ne (tgt := 49) hx hb dX10_bench_39 (by decide) (fun c6 => ?_) (fun c6 => ?_)
    · replace h := (if_neg c6).symm.trans h
      refine lv_aload_n hx hb dX10_bench_49 rfl (lv_at hl 1 rfl) ?_
      refine va_get (D := D) (ci := 10) (v := .ref (a0 0)) (C := RX10) (T := TX10) (N := 19) hx hb hts hinX10 hown hK hP 0 rfl rfl 0 (by decide) (hts (.fieldLink RX10 10 "KneeBench" "bench" "LKneeBench$Bench;") (List.mem_of_getElem? (i := 3) rfl)) (fun _ h9 => h9) rfl dX10_bench_50 ?_
      refine lv_aload_n hx hb dX10_bench_53 rfl (lv_at hl 1 rfl) ?_
      refine va_get (D := D) (ci := 10) (v := .ref (a0 2)) (C := RX10) (T := TX10) (N := 19) hx hb hts hinX10 hown hK hP 0 rfl rfl 2 (by decide) (hts (.fieldLink RX10 23 "KneeBench" "spareBench" "LKneeBench$Bench;") (List.mem_of_getElem? (i := 4) rfl)) (fun _ h9 => h9) rfl dX10_bench_54 ?_
      obtain ⟨r7, hr7, h⟩ := bd_elim h
      refine ca_v (w' := [WX10 cy h0 a0 s0, WX0 cy (a0 0) a1 r7, WX5 cy (a0 1) a2 s2, WX0 cy (a0 2) a3 r3.2.2.2, WX8 cy (a0 8) a4 s4_5, WX1 cy (a0 9) (adv [a0 8, a0 2]) r3.2.1]) (rn_V (As := [.ref (a0 2)]) (rest := []) ⟨hx, hb, hml, hown, hts⟩ (kX0_copyFrom l D cy (a0 0) (a0 2) a1 a3 s1 r3.2.2.2 r7 hr7 H.size) (cwV 1 hts gX10_bench_X0_copyFrom rfl rfl rfl (by decide +kernel) ⟨Nat.le_of_ble_eq_true rfl, Nat.le_of_ble_eq_true rfl⟩) hK hN hP hD [1, 3] rfl rfl (ci := 0) (q0 := 1) rfl rfl rfl rfl hl.1 rfl (Nat.le_of_ble_eq_true rfl) dX10_bench_57 ⟨Nat.le_refl 0, Nat.le_refl 0⟩) hP hD hS hA [1, 3] ⟨rfl, rfl, rfl, rfl⟩ (fun H locs hP hD hS => ?_)
      refine lv_aload_n hx hb dX10_bench_60 rfl (lv_at hl 1 rfl) ?_
      refine va_get (D := D) (ci := 10) (v := .ref (a0 1)) (C := RX10) (T := TX10) (N := 19) hx hb hts hinX10 hown hK hP 0 rfl rfl 1 (by decide) (hts (.fieldLink RX10 19 "KneeBench" "season" "LKneeBench$Season;") (List.mem_of_getElem? (i := 5) rfl)) (fun _ h9 => h9) rfl dX10_bench_61 ?_
      obtain ⟨r8, hr8, h⟩ := lt_elim h
      refine ca_v (w' := [WX10 cy h0 a0 s0, WX0 cy (a0 0) a1 r7, WX5 cy (a0 1) a2 r8, WX0 cy (a0 2) a3 r3.2.2.2, WX8 cy (a0 8) a4 s4_5, WX1 cy (a0 9) (adv [a0 8, a0 2]) r3.2.1]) (rn_V (As := []) (rest := []) ⟨hx, hb, hml, hown, hts⟩ (kX5_empty l D cy (a0 1) a2 s2 r8 hr8.symm H.size) (cwV 0 hts gX10_bench_X5_empty rfl rfl rfl (by decide +kernel) ⟨Nat.le_of_ble_eq_true rfl, Nat.le_of_ble_eq_true rfl⟩) hK hN hP hD [2] rfl rfl (ci := 5) (q0 := 10) rfl rfl rfl rfl hl.1 rfl (Nat.le_of_ble_eq_true rfl) dX10_bench_64 ⟨Nat.le_refl 0, Nat.le_refl 0⟩) hP hD hS hA [2] ⟨rfl, rfl, rfl, rfl⟩ (fun H locs hP hD hS => ?_)
      refine lv_aload_n hx hb dX10_bench_67 rfl (lv_at hl 1 rfl) ?_
      refine lv_aload_n hx hb dX10_bench_68 rfl (lv_at hl 1 rfl) ?_
      refine va_get (D := D) (ci := 10) (v := .ref (a0 0)) (C := RX10) (T := TX10) (N := 19) hx hb hts hinX10 hown hK hP 0 rfl rfl 0 (by decide) (hts (.fieldLink RX10 10 "KneeBench" "bench" "LKneeBench$Bench;") (List.mem_of_getElem? (i := 3) rfl)) (fun _ h9 => h9) rfl dX10_bench_69 ?_
      refine va_getN (D := D) (ci := 0) (v := .int (gi r7 8)) (C := RX0) (T := TX0) (N := 14) hx hb hts hinX0 hown hK hP 1 rfl rfl 8 (by decide) (NW.fld hN 16 rfl _) (fun _ h9 => h9) rfl dX10_bench_72 ?_
      obtain ⟨r9, hr9, h⟩ := lt_elim h
      refine ca_i (w' := [WX10 cy h0 a0 r9.2, WX0 cy (a0 0) a1 r7, WX5 cy (a0 1) a2 r8, WX0 cy (a0 2) a3 r3.2.2.2, WX8 cy (a0 8) a4 s4_5, WX1 cy (a0 9) (adv [a0 8, a0 2]) r3.2.1]) (rn_V (As := [.int (gi r7 8)]) (rest := []) ⟨hx, hb, hml, hown, hts⟩ (kX10_answer l D cy h0 a0 s0 (gi r7 8) r9 hr9.symm H.size) (cwV 1 hts gX10_bench_X10_answer rfl rfl rfl (by decide +kernel) ⟨Nat.le_of_ble_eq_true rfl, Nat.le_of_ble_eq_true rfl⟩) hK hN hP hD [0] rfl rfl (ci := 10) (q0 := 0) rfl rfl rfl rfl hl.1 rfl (Nat.le_of_ble_eq_true rfl) dX10_bench_75 ⟨Nat.le_refl 0, Nat.le_refl 0⟩) hP hD hS hA [0] ⟨rfl, rfl, rfl, rfl⟩ (fun H locs hP hD hS => ?_)
      exact hret 78 H locs ls (r9.1, r9.2, r7, r8, r3.2.2.2, s4_5, r3.2.1) (Option.some.inj h) hP hD hS dX10_bench_78
    · replace h := (if_pos c6).symm.trans h
      refine lv_aload_n hx hb dX10_bench_42 rfl (lv_at hl 1 rfl) ?_
      refine lv_bipush (v := 9) hx hb dX10_bench_43 (by decide) ?_
      obtain ⟨r10, hr10, h⟩ := lt_elim h
      refine ca_i (w' := [WX10 cy h0 a0 r10.2, WX0 cy (a0 0) a1 s1, WX5 cy (a0 1) a2 s2, WX0 cy (a0 2) a3 r3.2.2.2, WX8 cy (a0 8) a4 s4_5, WX1 cy (a0 9) (adv [a0 8, a0 2]) r3.2.1]) (rn_V (As := [.int (9 : Int32)]) (rest := []) ⟨hx, hb, hml, hown, hts⟩ (kX10_refuse l D cy h0 a0 s0 (9 : Int32) r10 hr10.symm H.size) (cwV 1 hts gX10_bench_X10_refuse rfl rfl rfl (by decide +kernel) ⟨Nat.le_of_ble_eq_true rfl, Nat.le_of_ble_eq_true rfl⟩) hK hN hP hD [0] rfl rfl (ci := 10) (q0 := 0) rfl rfl rfl rfl hl.1 rfl (Nat.le_of_ble_eq_true rfl) dX10_bench_45 ⟨Nat.le_refl 0, Nat.le_refl 0⟩) hP hD hS hA [0] ⟨rfl, rfl, rfl, rfl⟩ (fun H locs hP hD hS => ?_)
      exact hret 48 H locs ls (r10.1, r10.2, s1, s2, r3.2.2.2, s4_5, r3.2.1) (Option.some.inj h) hP hD hS dX10_bench_48
  · replace h := (if_neg c2).symm.trans h
    refine lv_aload_n hx hb dX10_bench_15 rfl (lv_at hl 0 rfl) ?_
    refine lv_iconst (v := 1) hx hb dX10_bench_16 (by decide) ?_
    obtain ⟨r11, hr11, h⟩ := lt_elim h
    refine ca_i (w' := [WX10 cy h0 a0 r11.2, WX0 cy (a0 0) a1 s1, WX5 cy (a0 1) a2 s2, WX0 cy (a0 2) a3 s3, WX8 cy (a0 8) a4 s4, WX1 cy (a0 9) (adv [a0 8, a0 2]) s5]) (rn_V (As := [.int (1 : Int32)]) (rest := []) ⟨hx, hb, hml, hown, hts⟩ (kX10_refuse l D cy h0 a0 s0 (1 : Int32) r11 hr11.symm H.size) (cwV 1 hts gX10_bench_X10_refuse rfl rfl rfl (by decide +kernel) ⟨Nat.le_of_ble_eq_true rfl, Nat.le_of_ble_eq_true rfl⟩) hK hN hP hD [0] rfl rfl (ci := 10) (q0 := 0) rfl rfl rfl rfl hl.1 rfl (Nat.le_of_ble_eq_true rfl) dX10_bench_17 ⟨Nat.le_refl 0, Nat.le_refl 0⟩) hP hD hS hA [0] ⟨rfl, rfl, rfl, rfl⟩ (fun H locs hP hD hS => ?_)
    exact hret 20 H locs ls (r11.1, r11.2, s1, s2, s3, s4, s5) (Option.some.inj h) hP hD hS dX10_bench_20
set_option maxRecDepth 20000 in
theorem ggX10_bestLaw_X0_keptUnder : GoodIn wsX10_bestLaw wsX0_keptUnder := goodIn_r _ [6, 7, 8, 9, 10, 5, 11, 12, 13, 14, 15, 16, 17, 18, 19, 20, 21, 22, 23, 24, 25, 26, 27, 28, 29, 30, 31, 32, 33, 34, 35, 36, 37, 38, 39, 40, 41, 42, 43, 44, 45, 46, 47, 48, 49, 50, 51, 52, 53, 54, 55, 80, 81, 82, 83, 84, 85, 86, 87, 88, 89, 90, 91, 92, 93] (by decide +kernel) (by decide +kernel)
set_option maxRecDepth 20000 in
theorem gX10_bestLaw_X0_keptUnder : GoodIn wsX10_bestLaw (wsV RX10 315 RX0 yX0_keptUnder wsX0_keptUnder) := goodIn_app (goodIn_of _ (by decide +kernel)) ggX10_bestLaw_X0_keptUnder
set_option maxRecDepth 20000 in
theorem ggX10_bestLaw_X10_answer : GoodIn wsX10_bestLaw wsX10_answer := goodIn_r _ [59, 60, 61, 62, 63, 64, 65, 66, 67, 68, 69, 70, 71, 72, 73, 74, 75, 76, 77, 78, 79] (by decide +kernel) (by decide +kernel)
set_option maxRecDepth 20000 in
theorem gX10_bestLaw_X10_answer : GoodIn wsX10_bestLaw (wsV RX10 181 RX10 yX10_answer wsX10_answer) := goodIn_app (goodIn_of _ (by decide +kernel)) ggX10_bestLaw_X10_answer
theorem dX10_bestLaw_0 : decode cX10_bestLaw 0 = .ok (.iconst 0, 1) := by decide +kernel
theorem dX10_bestLaw_1 : decode cX10_bestLaw 1 = .ok (.istore_n 1, 1) := by decide +kernel
theorem dX10_bestLaw_2 : decode cX10_bestLaw 2 = .ok (.iconst 1, 1) := by decide +kernel
theorem dX10_bestLaw_3 : decode cX10_bestLaw 3 = .ok (.istore_n 2, 1) := by decide +kernel
theorem dX10_bestLaw_4 : decode cX10_bestLaw 4 = .ok (.iload_n 2, 1) := by decide +kernel
theorem dX10_bestLaw_5 : decode cX10_bestLaw 5 = .ok (.iconst 4, 1) := by decide +kernel
theorem dX10_bestLaw_6 : decode cX10_bestLaw 6 = .ok (.if_icmp .ge 32, 3) := by decide +kernel
theorem dX10_bestLaw_9 : decode cX10_bestLaw 9 = .ok (.aload_n 0, 1) := by decide +kernel
theorem dX10_bestLaw_10 : decode cX10_bestLaw 10 = .ok (.getfield 10, 3) := by decide +kernel
theorem dX10_bestLaw_13 : decode cX10_bestLaw 13 = .ok (.iload_n 2, 1) := by decide +kernel
theorem dX10_bestLaw_14 : decode cX10_bestLaw 14 = .ok (.iconst 0, 1) := by decide +kernel
theorem dX10_bestLaw_15 : decode cX10_bestLaw 15 = .ok (.invokevirtual 315, 3) := by decide +kernel
theorem dX10_bestLaw_18 : decode cX10_bestLaw 18 = .ok (.aload_n 0, 1) := by decide +kernel
theorem dX10_bestLaw_19 : decode cX10_bestLaw 19 = .ok (.getfield 10, 3) := by decide +kernel
theorem dX10_bestLaw_22 : decode cX10_bestLaw 22 = .ok (.iload_n 1, 1) := by decide +kernel
theorem dX10_bestLaw_23 : decode cX10_bestLaw 23 = .ok (.iconst 0, 1) := by decide +kernel
theorem dX10_bestLaw_24 : decode cX10_bestLaw 24 = .ok (.invokevirtual 315, 3) := by decide +kernel
theorem dX10_bestLaw_27 : decode cX10_bestLaw 27 = .ok (.if_icmp .le 5, 3) := by decide +kernel
theorem dX10_bestLaw_30 : decode cX10_bestLaw 30 = .ok (.iload_n 2, 1) := by decide +kernel
theorem dX10_bestLaw_31 : decode cX10_bestLaw 31 = .ok (.istore_n 1, 1) := by decide +kernel
theorem dX10_bestLaw_32 : decode cX10_bestLaw 32 = .ok (.iinc 2 1, 3) := by decide +kernel
theorem dX10_bestLaw_35 : decode cX10_bestLaw 35 = .ok (.goto (-31), 3) := by decide +kernel
theorem dX10_bestLaw_38 : decode cX10_bestLaw 38 = .ok (.aload_n 0, 1) := by decide +kernel
theorem dX10_bestLaw_39 : decode cX10_bestLaw 39 = .ok (.iload_n 1, 1) := by decide +kernel
theorem dX10_bestLaw_40 : decode cX10_bestLaw 40 = .ok (.invokevirtual 181, 3) := by decide +kernel
theorem dX10_bestLaw_43 : decode cX10_bestLaw 43 = .ok (.ireturn, 1) := by decide +kernel
abbrev rmX10_bestLaw : Room := { frames := 4, cells := 0, slots := 0, locals := 92 }
set_option maxHeartbeats 4000000 in
set_option maxRecDepth 100000 in
theorem kX10_bestLaw (l : Launch) (D : va_G) (cy : Nat → ClassId) (h0 : Nat) (a0 : Nat → Nat) (a1 : Nat → Nat) (s0 : Rc) (s1 : Rc) (res : Int32 × Rc) (h : fX10_bestLaw s0 s1 = some res) : CI l D cy yX10_bestLaw wsX10_bestLaw rmX10_bestLaw [.ref h0] (flat [WX10 cy h0 a0 s0, WX0 cy (a0 0) a1 s1]) (flat [WX10 cy h0 a0 res.2, WX0 cy (a0 0) a1 s1]) res.1 := by
  refine CI.of (cc := cX10_bestLaw) (maxL := 3) (by decide) rfl (Nat.le_of_ble_eq_true rfl) ?_
  intro p e s m args below meth c A QQ ls E hr
  obtain ⟨hx, hb, hml, hown, hts, hK, hN, hP, hD, hA, hl⟩ := E
  have hret : ∀ (pc : Nat) (H : Heap) (locs : List Loc) (ls : Array Slot) (u : Int32 × Rc), u = res → va_P D vwCl (flat [WX10 cy h0 a0 u.2, WX0 cy (a0 0) a1 s1]) H → va_D A (flat [WX10 cy h0 a0 u.2, WX0 cy (a0 0) a1 s1]) → va_S A s.heap H locs → decode cX10_bestLaw pc = .ok (.ireturn, 1) → W p l e rmX10_bestLaw s m args below meth c H locs 0 0 QQ (F0 m pc ls [.int u.1]) := by
    intro pc H locs ls u hu hP hD hS hd; subst hu; exact hr pc H locs ls _ rfl hP hD hS hd
  clear hr
  have hl : lv_has ls 3 [(0, .ref h0)] := hl
  have hinX10 : ∀ w ∈ wsX100, w ∈ wsX10_bestLaw := fun _ h => List.mem_cons_of_mem _ (List.mem_append_left _ (List.mem_append_right _ h))
  unfold fX10_bestLaw at h
  suffices key : ∀ (H : Heap) (locs : List Loc), va_P D vwCl (flat [WX10 cy h0 a0 s0, WX0 cy (a0 0) a1 s1]) H → va_S A s.heap H locs → W p l e rmX10_bestLaw s m args below meth c H locs 0 0 QQ (F0 m 0 ls []) from key _ _ hP va_S.rf
  clear hP
  intro H locs hP hS
  refine lv_iconst (v := 0) hx hb dX10_bestLaw_0 (by decide) ?_
  refine lv_istore_n (lv' := [(1, .int (0 : Int32)), (0, .ref h0)]) hx hb dX10_bestLaw_1 rfl hl (by decide) rfl (fun ls hl => ?_)
  refine lv_iconst (v := 1) hx hb dX10_bestLaw_2 (by decide) ?_
  refine lv_istore_n (lv' := [(2, .int (1 : Int32)), (1, .int (0 : Int32)), (0, .ref h0)]) hx hb dX10_bestLaw_3 rfl hl (by decide) rfl (fun ls hl => ?_)
  have L4 : ∀ (n : Nat) (q4 : Int32 × Int32) (o : Int32), loopO (fX10_bestLaw_L4 s1) n q4 = some o → ∀ (H : Heap) (locs : List Loc) (ls : Array Slot), lv_has ls 3 [(0, .ref h0), (1, .int q4.1), (2, .int q4.2)] → va_P D vwCl (flat [WX10 cy h0 a0 s0, WX0 cy (a0 0) a1 s1]) H → va_D A (flat [WX10 cy h0 a0 s0, WX0 cy (a0 0) a1 s1]) → va_S A s.heap H locs → ∀ (kk38 : ∀ (H : Heap) (locs : List Loc) (ls : Array Slot), lv_has ls 3 [(0, .ref h0), (1, .int o)] → va_P D vwCl (flat [WX10 cy h0 a0 s0, WX0 cy (a0 0) a1 s1]) H → va_D A (flat [WX10 cy h0 a0 s0, WX0 cy (a0 0) a1 s1]) → va_S A s.heap H locs → W p l e rmX10_bestLaw s m args below meth c H locs 0 0 QQ (F0 m 38 ls [])), W p l e rmX10_bestLaw s m args below meth c H locs 0 0 QQ (F0 m 4 ls []) := by
    intro n
    induction n with
    | zero => intro q4 o h; exact absurd h (by rw [loopO_zero]; intro z; cases z)
    | succ n ih =>
      intro q4 o h H locs ls hl hP hD hS kk38
      obtain ⟨w, h, hgo, hst⟩ := loopO_elim h
      unfold fX10_bestLaw_L4 at h
      refine lv_iload_n hx hb dX10_bestLaw_4 rfl (lv_at hl 2 rfl) ?_
      refine lv_iconst (v := 4) hx hb dX10_bestLaw_5 (by decide) ?_
      refine lv_icmp_ge (tgt := 38) hx hb dX10_bestLaw_6 (by decide) (fun c1 => ?_) (fun c1 => ?_)
      · replace h := (if_pos c1).symm.trans h
        have eo := hst _ (Option.some.inj h).symm
        subst eo
        exact kk38 H locs ls (lv_sub hl [0, 1] rfl) hP hD hS
      · replace h := (if_neg c1).symm.trans h
        refine lv_aload_n hx hb dX10_bestLaw_9 rfl (lv_at hl 0 rfl) ?_
        refine va_get (D := D) (ci := 10) (v := .ref (a0 0)) (C := RX10) (T := TX10) (N := 19) hx hb hts hinX10 hown hK hP 0 rfl rfl 0 (by decide) (hts (.fieldLink RX10 10 "KneeBench" "bench" "LKneeBench$Bench;") (List.mem_of_getElem? (i := 1) rfl)) (fun _ h9 => h9) rfl dX10_bestLaw_10 ?_
        refine lv_iload_n hx hb dX10_bestLaw_13 rfl (lv_at hl 2 rfl) ?_
        refine lv_iconst (v := 0) hx hb dX10_bestLaw_14 (by decide) ?_
        obtain ⟨r2, hr2, h⟩ := bd_elim h
        refine ca_i (w' := [WX10 cy h0 a0 s0, WX0 cy (a0 0) a1 s1]) (rn_V (As := [.int q4.2, .int (0 : Int32)]) (rest := []) ⟨hx, hb, hml, hown, hts⟩ (kX0_keptUnder l D cy (a0 0) a1 s1 q4.2 (0 : Int32) r2 hr2 H.size) (cwV 2 hts gX10_bestLaw_X0_keptUnder rfl rfl rfl (by decide +kernel) ⟨Nat.le_of_ble_eq_true rfl, Nat.le_of_ble_eq_true rfl⟩) hK hN hP hD [1] rfl rfl (ci := 0) (q0 := 1) rfl rfl rfl rfl hl.1 rfl (Nat.le_of_ble_eq_true rfl) dX10_bestLaw_15 ⟨Nat.le_refl 0, Nat.le_refl 0⟩) hP hD hS hA [1] ⟨rfl, rfl, rfl, rfl⟩ (fun H locs hP hD hS => ?_)
        refine lv_aload_n hx hb dX10_bestLaw_18 rfl (lv_at hl 0 rfl) ?_
        refine va_get (D := D) (ci := 10) (v := .ref (a0 0)) (C := RX10) (T := TX10) (N := 19) hx hb hts hinX10 hown hK hP 0 rfl rfl 0 (by decide) (hts (.fieldLink RX10 10 "KneeBench" "bench" "LKneeBench$Bench;") (List.mem_of_getElem? (i := 1) rfl)) (fun _ h9 => h9) rfl dX10_bestLaw_19 ?_
        refine lv_iload_n hx hb dX10_bestLaw_22 rfl (lv_at hl 1 rfl) ?_
        refine lv_iconst (v := 0) hx hb dX10_bestLaw_23 (by decide) ?_
        obtain ⟨r3, hr3, h⟩ := bd_elim h
        refine ca_i (w' := [WX10 cy h0 a0 s0, WX0 cy (a0 0) a1 s1]) (rn_V (As := [.int q4.1, .int (0 : Int32)]) (rest := [.int r2]) ⟨hx, hb, hml, hown, hts⟩ (kX0_keptUnder l D cy (a0 0) a1 s1 q4.1 (0 : Int32) r3 hr3 H.size) (cwV 2 hts gX10_bestLaw_X0_keptUnder rfl rfl rfl (by decide +kernel) ⟨Nat.le_of_ble_eq_true rfl, Nat.le_of_ble_eq_true rfl⟩) hK hN hP hD [1] rfl rfl (ci := 0) (q0 := 1) rfl rfl rfl rfl hl.1 rfl (Nat.le_of_ble_eq_true rfl) dX10_bestLaw_24 ⟨Nat.le_refl 0, Nat.le_refl 0⟩) hP hD hS hA [1] ⟨rfl, rfl, rfl, rfl⟩ (fun H locs hP hD hS => ?_)
        refine lv_icmp_le (tgt := 32) hx hb dX10_bestLaw_27 (by decide) (fun c4 => ?_) (fun c4 => ?_)
        · replace h := (if_pos c4).symm.trans h
          refine lv_iinc (v := (q4.2 + (1 : Int32))) (lv' := [(2, .int (q4.2 + (1 : Int32))), (0, .ref h0), (1, .int q4.1)]) hx hb dX10_bestLaw_32 hl (k := 2) rfl rfl (by decide) rfl (fun ls hl => ?_)
          refine lv_goto (tgt := 4) hx hb dX10_bestLaw_35 (by decide) ?_
          exact ih _ o (hgo _ (Option.some.inj h).symm) H locs ls (lv_sub hl [1, 2, 0] rfl) hP hD hS kk38
        · replace h := (if_neg c4).symm.trans h
          refine lv_iload_n hx hb dX10_bestLaw_30 rfl (lv_at hl 2 rfl) ?_
          refine lv_istore_n (lv' := [(1, .int q4.2), (0, .ref h0), (2, .int q4.2)]) hx hb dX10_bestLaw_31 rfl hl (by decide) rfl (fun ls hl => ?_)
          refine lv_iinc (v := (q4.2 + (1 : Int32))) (lv' := [(2, .int (q4.2 + (1 : Int32))), (1, .int q4.2), (0, .ref h0)]) hx hb dX10_bestLaw_32 hl (k := 2) rfl rfl (by decide) rfl (fun ls hl => ?_)
          refine lv_goto (tgt := 4) hx hb dX10_bestLaw_35 (by decide) ?_
          exact ih _ o (hgo _ (Option.some.inj h).symm) H locs ls (lv_sub hl [2, 1, 0] rfl) hP hD hS kk38
  obtain ⟨o4, ho4, h⟩ := bd_elim h
  obtain ⟨n4, hn4⟩ := loopF_some ho4
  refine L4 n4 _ o4 hn4 H locs ls (lv_sub hl [2, 1, 0] rfl) hP hD hS (fun H locs ls hl hP hD hS => ?_)
  refine lv_aload_n hx hb dX10_bestLaw_38 rfl (lv_at hl 0 rfl) ?_
  refine lv_iload_n hx hb dX10_bestLaw_39 rfl (lv_at hl 1 rfl) ?_
  obtain ⟨r5, hr5, h⟩ := lt_elim h
  refine ca_i (w' := [WX10 cy h0 a0 r5.2, WX0 cy (a0 0) a1 s1]) (rn_V (As := [.int o4]) (rest := []) ⟨hx, hb, hml, hown, hts⟩ (kX10_answer l D cy h0 a0 s0 o4 r5 hr5.symm H.size) (cwV 1 hts gX10_bestLaw_X10_answer rfl rfl rfl (by decide +kernel) ⟨Nat.le_of_ble_eq_true rfl, Nat.le_of_ble_eq_true rfl⟩) hK hN hP hD [0] rfl rfl (ci := 10) (q0 := 0) rfl rfl rfl rfl hl.1 rfl (Nat.le_of_ble_eq_true rfl) dX10_bestLaw_40 ⟨Nat.le_refl 0, Nat.le_refl 0⟩) hP hD hS hA [0] ⟨rfl, rfl, rfl, rfl⟩ (fun H locs hP hD hS => ?_)
  exact hret 43 H locs ls (r5.1, r5.2) (Option.some.inj h) hP hD hS dX10_bestLaw_43
theorem dX10_bottom_0 : decode cX10_bottom 0 = .ok (.aload_n 0, 1) := by decide +kernel
theorem dX10_bottom_1 : decode cX10_bottom 1 = .ok (.getfield 109, 3) := by decide +kernel
theorem dX10_bottom_4 : decode cX10_bottom 4 = .ok (.lreturn, 1) := by decide +kernel
abbrev rmX10_bottom : Room := { frames := 0, cells := 0, slots := 0, locals := 0 }
set_option maxHeartbeats 4000000 in
set_option maxRecDepth 100000 in
theorem kX10_bottom (l : Launch) (D : va_G) (cy : Nat → ClassId) (h0 : Nat) (a0 : Nat → Nat) (s0 : Rc) (res : Int64) (h : fX10_bottom s0 = res) : CL l D cy yX10_bottom wsX10_bottom rmX10_bottom [.ref h0] (flat [WX10 cy h0 a0 s0]) (flat [WX10 cy h0 a0 s0]) res := by
  refine CL.of (cc := cX10_bottom) (maxL := 1) (by decide) rfl (Nat.le_of_ble_eq_true rfl) ?_
  intro p e s m args below meth c A QQ ls E hr
  obtain ⟨hx, hb, hml, hown, hts, hK, hN, hP, hD, hA, hl⟩ := E
  have hret : ∀ (pc : Nat) (H : Heap) (locs : List Loc) (ls : Array Slot) (u : Int64), u = res → va_P D vwCl (flat [WX10 cy h0 a0 s0]) H → va_D A (flat [WX10 cy h0 a0 s0]) → va_S A s.heap H locs → decode cX10_bottom pc = .ok (.lreturn, 1) → W p l e rmX10_bottom s m args below meth c H locs 0 0 QQ (F0 m pc ls [.long u]) := by
    intro pc H locs ls u hu hP hD hS hd; subst hu; exact hr pc H locs ls _ rfl hP hD hS hd
  clear hr
  have hl : lv_has ls 1 [(0, .ref h0)] := hl
  have hinX10 : ∀ w ∈ wsX100, w ∈ wsX10_bottom := fun _ h => List.mem_cons_of_mem _ (List.mem_append_right _ h)
  unfold fX10_bottom at h
  suffices key : ∀ (H : Heap) (locs : List Loc), va_P D vwCl (flat [WX10 cy h0 a0 s0]) H → va_S A s.heap H locs → W p l e rmX10_bottom s m args below meth c H locs 0 0 QQ (F0 m 0 ls []) from key _ _ hP va_S.rf
  clear hP
  intro H locs hP hS
  refine lv_aload_n hx hb dX10_bottom_0 rfl (lv_at hl 0 rfl) ?_
  refine va_get (D := D) (ci := 10) (v := .long (gl s0 18)) (C := RX10) (T := TX10) (N := 19) hx hb hts hinX10 hown hK hP 0 rfl rfl 18 (by decide) (hts (.fieldLink RX10 109 "KneeBench" "fractionBottom" "J") (List.mem_of_getElem? (i := 1) rfl)) (fun _ h9 => h9) rfl dX10_bottom_1 ?_
  exact hret 4 H locs ls (gl s0 18) h hP hD hS dX10_bottom_4
theorem dX10_deny_0 : decode cX10_deny 0 = .ok (.aload_n 0, 1) := by decide +kernel
theorem dX10_deny_1 : decode cX10_deny 1 = .ok (.iload_n 1, 1) := by decide +kernel
theorem dX10_deny_2 : decode cX10_deny 2 = .ok (.putfield 102, 3) := by decide +kernel
theorem dX10_deny_5 : decode cX10_deny 5 = .ok (.iconst 0, 1) := by decide +kernel
theorem dX10_deny_6 : decode cX10_deny 6 = .ok (.ireturn, 1) := by decide +kernel
abbrev rmX10_deny : Room := { frames := 0, cells := 0, slots := 0, locals := 0 }
set_option maxHeartbeats 4000000 in
set_option maxRecDepth 100000 in
theorem kX10_deny (l : Launch) (D : va_G) (cy : Nat → ClassId) (h0 : Nat) (a0 : Nat → Nat) (s0 : Rc) (p1 : Int32) (res : Int32 × Rc) (h : fX10_deny p1 s0 = res) : CZ l D cy yX10_deny wsX10_deny rmX10_deny [.ref h0, .int p1] (flat [WX10 cy h0 a0 s0]) (flat [WX10 cy h0 a0 res.2]) res.1 := by
  refine CZ.of (cc := cX10_deny) (maxL := 2) (by decide) rfl (Nat.le_of_ble_eq_true rfl) ?_
  intro p e s m args below meth c A QQ ls E hr
  obtain ⟨hx, hb, hml, hown, hts, hK, hN, hP, hD, hA, hl⟩ := E
  have hret : ∀ (pc : Nat) (H : Heap) (locs : List Loc) (ls : Array Slot) (u : Int32 × Rc), u = res → va_P D vwCl (flat [WX10 cy h0 a0 u.2]) H → va_D A (flat [WX10 cy h0 a0 u.2]) → va_S A s.heap H locs → isb u.1 = true → decode cX10_deny pc = .ok (.ireturn, 1) → W p l e rmX10_deny s m args below meth c H locs 0 0 QQ (F0 m pc ls [.int u.1]) := by
    intro pc H locs ls u hu hP hD hS hz hd; subst hu; exact hr pc H locs ls _ rfl hP hD hS hz hd
  clear hr
  have hl : lv_has ls 2 [(0, .ref h0), (1, .int p1)] := hl
  have hinX10 : ∀ w ∈ wsX100, w ∈ wsX10_deny := fun _ h => List.mem_cons_of_mem _ (List.mem_append_right _ h)
  unfold fX10_deny at h
  suffices key : ∀ (H : Heap) (locs : List Loc), va_P D vwCl (flat [WX10 cy h0 a0 s0]) H → va_S A s.heap H locs → W p l e rmX10_deny s m args below meth c H locs 0 0 QQ (F0 m 0 ls []) from key _ _ hP va_S.rf
  clear hP
  intro H locs hP hS
  refine lv_aload_n hx hb dX10_deny_0 rfl (lv_at hl 0 rfl) ?_
  refine lv_iload_n hx hb dX10_deny_1 rfl (lv_at hl 1 rfl) ?_
  obtain ⟨s0_1, es, h⟩ := lt_elim h
  refine va_put (D := D) (ci := 10) (v := .int p1) (ty := .int) (C := RX10) (T := TX10) (N := 19) hx hb hts hinX10 tyX10 tyX10_ok nmX10 hown hK hP hD hS 0 rfl rfl 16 (by decide) (hts (.fieldLink RX10 102 "KneeBench" "latestStatus" "I") (List.mem_of_getElem? (i := 1) rfl)) (fun _ h9 => h9) rfl (by decide +kernel) rfl rfl (Nat.le_of_ble_eq_true rfl) dX10_deny_2 (fun H locs hP hD hS => ?_)
  have hP : va_P D vwCl (flat [WX10 cy h0 a0 s0_1]) H := by rw [es]; exact hP
  have hD : va_D A (flat [WX10 cy h0 a0 s0_1]) := by rw [es]; exact hD
  clear es
  refine lv_iconst (v := 0) hx hb dX10_deny_5 (by decide) ?_
  exact hret 6 H locs ls ((0 : Int32), s0_1) h hP hD hS (show isb (0 : Int32) = true by decide) dX10_deny_6
set_option maxRecDepth 20000 in
theorem ggX10_brandy_X10_noFarmer : GoodIn wsX10_brandy wsX10_noFarmer := goodIn_r _ [6, 1, 19, 20, 21, 22, 23, 24, 25, 26, 27, 28, 29, 30, 31, 32, 33, 34, 35, 36, 37, 38, 39, 40, 41, 42, 43, 44, 45, 46, 47, 48, 49, 50, 51] (by decide +kernel) (by decide +kernel)
set_option maxRecDepth 20000 in
theorem gX10_brandy_X10_noFarmer : GoodIn wsX10_brandy (wsV RX10 215 RX10 yX10_noFarmer wsX10_noFarmer) := goodIn_app (goodIn_of _ (by decide +kernel)) ggX10_brandy_X10_noFarmer
set_option maxRecDepth 20000 in
theorem ggX10_brandy_X10_outside : GoodIn wsX10_brandy wsX10_outside := goodIn_r _ [9] (by decide +kernel) (by decide +kernel)
set_option maxRecDepth 20000 in
theorem gX10_brandy_X10_outside : GoodIn wsX10_brandy (va_wsS RX10 116 yX10_outside wsX10_outside) := goodIn_app (goodIn_of _ (by decide +kernel)) ggX10_brandy_X10_outside
set_option maxRecDepth 20000 in
theorem ggX10_brandy_X10_deny : GoodIn wsX10_brandy wsX10_deny := goodIn_r _ [13, 14, 19, 20, 21, 22, 23, 24, 25, 26, 27, 28, 29, 30, 31, 32, 33, 34, 35, 36, 37] (by decide +kernel) (by decide +kernel)
set_option maxRecDepth 20000 in
theorem gX10_brandy_X10_deny : GoodIn wsX10_brandy (wsV RX10 120 RX10 yX10_deny wsX10_deny) := goodIn_app (goodIn_of _ (by decide +kernel)) ggX10_brandy_X10_deny
set_option maxRecDepth 20000 in
theorem ggX10_brandy_X10_allow : GoodIn wsX10_brandy wsX10_allow := goodIn_r _ [18, 14, 19, 20, 21, 22, 23, 24, 25, 26, 27, 28, 29, 30, 31, 32, 33, 34, 35, 36, 37] (by decide +kernel) (by decide +kernel)
set_option maxRecDepth 20000 in
theorem gX10_brandy_X10_allow : GoodIn wsX10_brandy (wsV RX10 127 RX10 yX10_allow wsX10_allow) := goodIn_app (goodIn_of _ (by decide +kernel)) ggX10_brandy_X10_allow
theorem dX10_brandy_0 : decode cX10_brandy 0 = .ok (.aload_n 0, 1) := by decide +kernel
theorem dX10_brandy_1 : decode cX10_brandy 1 = .ok (.iload_n 1, 1) := by decide +kernel
theorem dX10_brandy_2 : decode cX10_brandy 2 = .ok (.invokevirtual 215, 3) := by decide +kernel
theorem dX10_brandy_5 : decode cX10_brandy 5 = .ok (.ifCond .ne 13, 3) := by decide +kernel
theorem dX10_brandy_8 : decode cX10_brandy 8 = .ok (.iload_n 2, 1) := by decide +kernel
theorem dX10_brandy_9 : decode cX10_brandy 9 = .ok (.iconst 0, 1) := by decide +kernel
theorem dX10_brandy_10 : decode cX10_brandy 10 = .ok (.bipush 16, 2) := by decide +kernel
theorem dX10_brandy_12 : decode cX10_brandy 12 = .ok (.invokestatic 116, 3) := by decide +kernel
theorem dX10_brandy_15 : decode cX10_brandy 15 = .ok (.ifCond .eq 9, 3) := by decide +kernel
theorem dX10_brandy_18 : decode cX10_brandy 18 = .ok (.aload_n 0, 1) := by decide +kernel
theorem dX10_brandy_19 : decode cX10_brandy 19 = .ok (.iconst 1, 1) := by decide +kernel
theorem dX10_brandy_20 : decode cX10_brandy 20 = .ok (.invokevirtual 120, 3) := by decide +kernel
theorem dX10_brandy_23 : decode cX10_brandy 23 = .ok (.ireturn, 1) := by decide +kernel
theorem dX10_brandy_24 : decode cX10_brandy 24 = .ok (.aload_n 0, 1) := by decide +kernel
theorem dX10_brandy_25 : decode cX10_brandy 25 = .ok (.getfield 10, 3) := by decide +kernel
theorem dX10_brandy_28 : decode cX10_brandy 28 = .ok (.getfield 224, 3) := by decide +kernel
theorem dX10_brandy_31 : decode cX10_brandy 31 = .ok (.iload_n 1, 1) := by decide +kernel
theorem dX10_brandy_32 : decode cX10_brandy 32 = .ok (.iload_n 2, 1) := by decide +kernel
theorem dX10_brandy_33 : decode cX10_brandy 33 = .ok (.iastore, 1) := by decide +kernel
theorem dX10_brandy_34 : decode cX10_brandy 34 = .ok (.aload_n 0, 1) := by decide +kernel
theorem dX10_brandy_35 : decode cX10_brandy 35 = .ok (.invokevirtual 127, 3) := by decide +kernel
theorem dX10_brandy_38 : decode cX10_brandy 38 = .ok (.ireturn, 1) := by decide +kernel
abbrev rmX10_brandy : Room := { frames := 1, cells := 0, slots := 0, locals := 22 }
set_option maxHeartbeats 4000000 in
set_option maxRecDepth 100000 in
theorem kX10_brandy (l : Launch) (D : va_G) (cy : Nat → ClassId) (h0 : Nat) (a0 : Nat → Nat) (a1 : Nat → Nat) (s0 : Rc) (s1 : Rc) (p1 : Int32) (p2 : Int32) (res : Int32 × Rc × Rc) (h : fX10_brandy p1 p2 s0 s1 = some res) : CZ l D cy yX10_brandy wsX10_brandy rmX10_brandy [.ref h0, .int p1, .int p2] (flat [WX10 cy h0 a0 s0, WX0 cy (a0 0) a1 s1]) (flat [WX10 cy h0 a0 res.2.1, WX0 cy (a0 0) a1 res.2.2]) res.1 := by
  refine CZ.of (cc := cX10_brandy) (maxL := 3) (by decide) rfl (Nat.le_of_ble_eq_true rfl) ?_
  intro p e s m args below meth c A QQ ls E hr
  obtain ⟨hx, hb, hml, hown, hts, hK, hN, hP, hD, hA, hl⟩ := E
  have hret : ∀ (pc : Nat) (H : Heap) (locs : List Loc) (ls : Array Slot) (u : Int32 × Rc × Rc), u = res → va_P D vwCl (flat [WX10 cy h0 a0 u.2.1, WX0 cy (a0 0) a1 u.2.2]) H → va_D A (flat [WX10 cy h0 a0 u.2.1, WX0 cy (a0 0) a1 u.2.2]) → va_S A s.heap H locs → isb u.1 = true → decode cX10_brandy pc = .ok (.ireturn, 1) → W p l e rmX10_brandy s m args below meth c H locs 0 0 QQ (F0 m pc ls [.int u.1]) := by
    intro pc H locs ls u hu hP hD hS hz hd; subst hu; exact hr pc H locs ls _ rfl hP hD hS hz hd
  clear hr
  have hl : lv_has ls 3 [(0, .ref h0), (1, .int p1), (2, .int p2)] := hl
  have hinX0 : ∀ w ∈ wsX00, w ∈ wsX10_brandy := fun _ h => List.mem_cons_of_mem _ (List.mem_append_right _ h)
  have hinX10 : ∀ w ∈ wsX100, w ∈ wsX10_brandy := fun _ h => List.mem_cons_of_mem _ (List.mem_append_left _ (List.mem_append_right _ h))
  unfold fX10_brandy at h
  suffices key : ∀ (H : Heap) (locs : List Loc), va_P D vwCl (flat [WX10 cy h0 a0 s0, WX0 cy (a0 0) a1 s1]) H → va_S A s.heap H locs → W p l e rmX10_brandy s m args below meth c H locs 0 0 QQ (F0 m 0 ls []) from key _ _ hP va_S.rf
  clear hP
  intro H locs hP hS
  refine lv_aload_n hx hb dX10_brandy_0 rfl (lv_at hl 0 rfl) ?_
  refine lv_iload_n hx hb dX10_brandy_1 rfl (lv_at hl 1 rfl) ?_
  refine ca_z (w' := [WX10 cy h0 a0 s0, WX0 cy (a0 0) a1 s1]) (rn_V (As := [.int p1]) (rest := []) ⟨hx, hb, hml, hown, hts⟩ (kX10_noFarmer l D cy h0 a0 a1 s0 s1 p1 _ rfl H.size) (cwV 1 hts gX10_brandy_X10_noFarmer rfl rfl rfl (by decide +kernel) ⟨Nat.le_of_ble_eq_true rfl, Nat.le_of_ble_eq_true rfl⟩) hK hN hP hD [0, 1] rfl rfl (ci := 10) (q0 := 0) rfl rfl rfl rfl hl.1 rfl (Nat.le_of_ble_eq_true rfl) dX10_brandy_2 ⟨Nat.le_refl 0, Nat.le_refl 0⟩) hP hD hS hA [0, 1] ⟨rfl, rfl, rfl, rfl⟩ (fun b1 H locs hP hD hS => ?_)
  refine lv_if_ne (tgt := 18) hx hb dX10_brandy_5 (by decide) (fun c2 => ?_) (fun c2 => ?_)
  · replace h := (if_neg c2).symm.trans h
    refine lv_aload_n hx hb dX10_brandy_18 rfl (lv_at hl 0 rfl) ?_
    refine lv_iconst (v := 1) hx hb dX10_brandy_19 (by decide) ?_
    obtain ⟨r3, hr3, h⟩ := lt_elim h
    refine ca_z (w' := [WX10 cy h0 a0 r3.2, WX0 cy (a0 0) a1 s1]) (rn_V (As := [.int (1 : Int32)]) (rest := []) ⟨hx, hb, hml, hown, hts⟩ (kX10_deny l D cy h0 a0 s0 (1 : Int32) r3 hr3.symm H.size) (cwV 1 hts gX10_brandy_X10_deny rfl rfl rfl (by decide +kernel) ⟨Nat.le_of_ble_eq_true rfl, Nat.le_of_ble_eq_true rfl⟩) hK hN hP hD [0] rfl rfl (ci := 10) (q0 := 0) rfl rfl rfl rfl hl.1 rfl (Nat.le_of_ble_eq_true rfl) dX10_brandy_20 ⟨Nat.le_refl 0, Nat.le_refl 0⟩) hP hD hS hA [0] ⟨rfl, rfl, rfl, rfl⟩ (fun b4 H locs hP hD hS => ?_)
    exact hret 23 H locs ls (r3.1, r3.2, s1) (Option.some.inj h) hP hD hS b4 dX10_brandy_23
  · replace h := (if_pos c2).symm.trans h
    refine lv_iload_n hx hb dX10_brandy_8 rfl (lv_at hl 2 rfl) ?_
    refine lv_iconst (v := 0) hx hb dX10_brandy_9 (by decide) ?_
    refine lv_bipush (v := 16) hx hb dX10_brandy_10 (by decide) ?_
    refine ca_z (w' := [WX10 cy h0 a0 s0, WX0 cy (a0 0) a1 s1]) (rn_S (As := [.int p2, .int (0 : Int32), .int (16 : Int32)]) (rest := []) ⟨hx, hb, hml, hown, hts⟩ (kX10_outside l D cy p2 (0 : Int32) (16 : Int32) _ rfl H.size) (va_cwS 3 hts gX10_brandy_X10_outside rfl rfl rfl (by decide +kernel) ⟨Nat.le_of_ble_eq_true rfl, Nat.le_of_ble_eq_true rfl⟩) hK hN hP hD [] rfl rfl rfl hl.1 rfl (Nat.le_of_ble_eq_true rfl) dX10_brandy_12 ⟨Nat.le_refl 0, Nat.le_refl 0⟩) hP hD hS hA [] ⟨rfl, rfl, rfl, rfl⟩ (fun b5 H locs hP hD hS => ?_)
    refine lv_if_eq (tgt := 24) hx hb dX10_brandy_15 (by decide) (fun c6 => ?_) (fun c6 => ?_)
    · replace h := (if_pos c6).symm.trans h
      refine lv_aload_n hx hb dX10_brandy_24 rfl (lv_at hl 0 rfl) ?_
      refine va_get (D := D) (ci := 10) (v := .ref (a0 0)) (C := RX10) (T := TX10) (N := 19) hx hb hts hinX10 hown hK hP 0 rfl rfl 0 (by decide) (hts (.fieldLink RX10 10 "KneeBench" "bench" "LKneeBench$Bench;") (List.mem_of_getElem? (i := 1) rfl)) (fun _ h9 => h9) rfl dX10_brandy_25 ?_
      refine va_getN (D := D) (ci := 0) (v := .ref (a1 3)) (C := RX0) (T := TX0) (N := 14) hx hb hts hinX0 hown hK hP 1 rfl rfl 3 (by decide) (NW.fld hN 7 rfl _) (fun _ h9 => h9) rfl dX10_brandy_28 ?_
      refine lv_iload_n hx hb dX10_brandy_31 rfl (lv_at hl 1 rfl) ?_
      refine lv_iload_n hx hb dX10_brandy_32 rfl (lv_at hl 2 rfl) ?_
      obtain ⟨g7, h⟩ := gd_elim h
      obtain ⟨s1_8, es, h⟩ := lt_elim h
      refine va_iast hx hb hK hP hD hS 5 1 rfl rfl (inb_in g7) dX10_brandy_33 (fun H locs hP hD hS => ?_)
      have hP : va_P D vwCl (flat [WX10 cy h0 a0 s0, WX0 cy (a0 0) a1 s1_8]) H := by rw [es]; exact hP
      have hD : va_D A (flat [WX10 cy h0 a0 s0, WX0 cy (a0 0) a1 s1_8]) := by rw [es]; exact hD
      clear es
      refine lv_aload_n hx hb dX10_brandy_34 rfl (lv_at hl 0 rfl) ?_
      obtain ⟨r9, hr9, h⟩ := lt_elim h
      refine ca_z (w' := [WX10 cy h0 a0 r9.2, WX0 cy (a0 0) a1 s1_8]) (rn_V (As := []) (rest := []) ⟨hx, hb, hml, hown, hts⟩ (kX10_allow l D cy h0 a0 s0 r9 hr9.symm H.size) (cwV 0 hts gX10_brandy_X10_allow rfl rfl rfl (by decide +kernel) ⟨Nat.le_of_ble_eq_true rfl, Nat.le_of_ble_eq_true rfl⟩) hK hN hP hD [0] rfl rfl (ci := 10) (q0 := 0) rfl rfl rfl rfl hl.1 rfl (Nat.le_of_ble_eq_true rfl) dX10_brandy_35 ⟨Nat.le_refl 0, Nat.le_refl 0⟩) hP hD hS hA [0] ⟨rfl, rfl, rfl, rfl⟩ (fun b10 H locs hP hD hS => ?_)
      exact hret 38 H locs ls (r9.1, r9.2, s1_8) (Option.some.inj h) hP hD hS b10 dX10_brandy_38
    · replace h := (if_neg c6).symm.trans h
      refine lv_aload_n hx hb dX10_brandy_18 rfl (lv_at hl 0 rfl) ?_
      refine lv_iconst (v := 1) hx hb dX10_brandy_19 (by decide) ?_
      obtain ⟨r11, hr11, h⟩ := lt_elim h
      refine ca_z (w' := [WX10 cy h0 a0 r11.2, WX0 cy (a0 0) a1 s1]) (rn_V (As := [.int (1 : Int32)]) (rest := []) ⟨hx, hb, hml, hown, hts⟩ (kX10_deny l D cy h0 a0 s0 (1 : Int32) r11 hr11.symm H.size) (cwV 1 hts gX10_brandy_X10_deny rfl rfl rfl (by decide +kernel) ⟨Nat.le_of_ble_eq_true rfl, Nat.le_of_ble_eq_true rfl⟩) hK hN hP hD [0] rfl rfl (ci := 10) (q0 := 0) rfl rfl rfl rfl hl.1 rfl (Nat.le_of_ble_eq_true rfl) dX10_brandy_20 ⟨Nat.le_refl 0, Nat.le_refl 0⟩) hP hD hS hA [0] ⟨rfl, rfl, rfl, rfl⟩ (fun b12 H locs hP hD hS => ?_)
      exact hret 23 H locs ls (r11.1, r11.2, s1) (Option.some.inj h) hP hD hS b12 dX10_brandy_23
set_option maxRecDepth 20000 in
theorem ggX10_clashes_X10_noCouple : GoodIn wsX10_clashes wsX10_noCouple := goodIn_r _ [6, 7, 8, 9, 5, 10, 1, 56, 57, 58, 59, 60, 61, 62, 63, 64, 65, 66, 67, 68, 69, 70, 71, 72, 73, 74, 75, 76, 77, 78, 79, 80, 81, 82, 83, 84, 85, 86, 87, 88] (by decide +kernel) (by decide +kernel)
set_option maxRecDepth 20000 in
theorem gX10_clashes_X10_noCouple : GoodIn wsX10_clashes (wsV RX10 369 RX10 yX10_noCouple wsX10_noCouple) := goodIn_app (goodIn_of _ (by decide +kernel)) ggX10_clashes_X10_noCouple
set_option maxRecDepth 20000 in
theorem ggX10_clashes_X10_refuse : GoodIn wsX10_clashes wsX10_refuse := goodIn_r _ [14, 15, 56, 57, 58, 59, 60, 61, 62, 63, 64, 65, 66, 67, 68, 69, 70, 71, 72, 73, 74] (by decide +kernel) (by decide +kernel)
set_option maxRecDepth 20000 in
theorem gX10_clashes_X10_refuse : GoodIn wsX10_clashes (wsV RX10 139 RX10 yX10_refuse wsX10_refuse) := goodIn_app (goodIn_of _ (by decide +kernel)) ggX10_clashes_X10_refuse
set_option maxRecDepth 20000 in
theorem ggX10_clashes_X0_toldDays : GoodIn wsX10_clashes wsX0_toldDays := goodIn_r _ [20, 21, 22, 23, 24, 19, 25, 26, 27, 28, 29, 30, 31, 32, 5, 33, 34, 35, 36, 37, 38, 39, 75, 76, 77, 78, 79, 80, 81, 82, 83, 84, 85, 86, 87, 88] (by decide +kernel) (by decide +kernel)
set_option maxRecDepth 20000 in
theorem gX10_clashes_X0_toldDays : GoodIn wsX10_clashes (wsV RX10 308 RX0 yX0_toldDays wsX0_toldDays) := goodIn_app (goodIn_of _ (by decide +kernel)) ggX10_clashes_X0_toldDays
set_option maxRecDepth 20000 in
theorem ggX10_clashes_X0_rainDays : GoodIn wsX10_clashes wsX0_rainDays := goodIn_r _ [43, 44, 21, 22, 23, 24, 19, 25, 26, 27, 28, 29, 30, 31, 32, 5, 33, 34, 35, 36, 37, 38, 39, 75, 76, 77, 78, 79, 80, 81, 82, 83, 84, 85, 86, 87, 88] (by decide +kernel) (by decide +kernel)
set_option maxRecDepth 20000 in
theorem gX10_clashes_X0_rainDays : GoodIn wsX10_clashes (wsV RX10 378 RX0 yX0_rainDays wsX0_rainDays) := goodIn_app (goodIn_of _ (by decide +kernel)) ggX10_clashes_X0_rainDays
set_option maxRecDepth 20000 in
theorem ggX10_clashes_J13_bitCount_95d88 : GoodIn wsX10_clashes wsJ13_bitCount_95d88 := goodIn_r _ [48, 49, 50, 51] (by decide +kernel) (by decide +kernel)
set_option maxRecDepth 20000 in
theorem gX10_clashes_J13_bitCount_95d88 : GoodIn wsX10_clashes (va_wsS RX10 203 yJ13_bitCount_95d88 wsJ13_bitCount_95d88) := goodIn_app (goodIn_of _ (by decide +kernel)) ggX10_clashes_J13_bitCount_95d88
set_option maxRecDepth 20000 in
theorem ggX10_clashes_X10_answer : GoodIn wsX10_clashes wsX10_answer := goodIn_r _ [55, 15, 56, 57, 58, 59, 60, 61, 62, 63, 64, 65, 66, 67, 68, 69, 70, 71, 72, 73, 74] (by decide +kernel) (by decide +kernel)
set_option maxRecDepth 20000 in
theorem gX10_clashes_X10_answer : GoodIn wsX10_clashes (wsV RX10 181 RX10 yX10_answer wsX10_answer) := goodIn_app (goodIn_of _ (by decide +kernel)) ggX10_clashes_X10_answer
theorem dX10_clashes_0 : decode cX10_clashes 0 = .ok (.aload_n 0, 1) := by decide +kernel
theorem dX10_clashes_1 : decode cX10_clashes 1 = .ok (.iload_n 1, 1) := by decide +kernel
theorem dX10_clashes_2 : decode cX10_clashes 2 = .ok (.iload_n 2, 1) := by decide +kernel
theorem dX10_clashes_3 : decode cX10_clashes 3 = .ok (.invokevirtual 369, 3) := by decide +kernel
theorem dX10_clashes_6 : decode cX10_clashes 6 = .ok (.ifCond .eq 9, 3) := by decide +kernel
theorem dX10_clashes_9 : decode cX10_clashes 9 = .ok (.aload_n 0, 1) := by decide +kernel
theorem dX10_clashes_10 : decode cX10_clashes 10 = .ok (.iconst 1, 1) := by decide +kernel
theorem dX10_clashes_11 : decode cX10_clashes 11 = .ok (.invokevirtual 139, 3) := by decide +kernel
theorem dX10_clashes_14 : decode cX10_clashes 14 = .ok (.ireturn, 1) := by decide +kernel
theorem dX10_clashes_15 : decode cX10_clashes 15 = .ok (.aload_n 0, 1) := by decide +kernel
theorem dX10_clashes_16 : decode cX10_clashes 16 = .ok (.getfield 10, 3) := by decide +kernel
theorem dX10_clashes_19 : decode cX10_clashes 19 = .ok (.iload_n 1, 1) := by decide +kernel
theorem dX10_clashes_20 : decode cX10_clashes 20 = .ok (.invokevirtual 308, 3) := by decide +kernel
theorem dX10_clashes_23 : decode cX10_clashes 23 = .ok (.aload_n 0, 1) := by decide +kernel
theorem dX10_clashes_24 : decode cX10_clashes 24 = .ok (.getfield 10, 3) := by decide +kernel
theorem dX10_clashes_27 : decode cX10_clashes 27 = .ok (.iload_n 2, 1) := by decide +kernel
theorem dX10_clashes_28 : decode cX10_clashes 28 = .ok (.invokevirtual 308, 3) := by decide +kernel
theorem dX10_clashes_31 : decode cX10_clashes 31 = .ok (.land, 1) := by decide +kernel
theorem dX10_clashes_32 : decode cX10_clashes 32 = .ok (.lstore_n 3, 1) := by decide +kernel
theorem dX10_clashes_33 : decode cX10_clashes 33 = .ok (.aload_n 0, 1) := by decide +kernel
theorem dX10_clashes_34 : decode cX10_clashes 34 = .ok (.lload_n 3, 1) := by decide +kernel
theorem dX10_clashes_35 : decode cX10_clashes 35 = .ok (.aload_n 0, 1) := by decide +kernel
theorem dX10_clashes_36 : decode cX10_clashes 36 = .ok (.getfield 10, 3) := by decide +kernel
theorem dX10_clashes_39 : decode cX10_clashes 39 = .ok (.iload_n 1, 1) := by decide +kernel
theorem dX10_clashes_40 : decode cX10_clashes 40 = .ok (.invokevirtual 378, 3) := by decide +kernel
theorem dX10_clashes_43 : decode cX10_clashes 43 = .ok (.aload_n 0, 1) := by decide +kernel
theorem dX10_clashes_44 : decode cX10_clashes 44 = .ok (.getfield 10, 3) := by decide +kernel
theorem dX10_clashes_47 : decode cX10_clashes 47 = .ok (.iload_n 2, 1) := by decide +kernel
theorem dX10_clashes_48 : decode cX10_clashes 48 = .ok (.invokevirtual 378, 3) := by decide +kernel
theorem dX10_clashes_51 : decode cX10_clashes 51 = .ok (.lxor, 1) := by decide +kernel
theorem dX10_clashes_52 : decode cX10_clashes 52 = .ok (.land, 1) := by decide +kernel
theorem dX10_clashes_53 : decode cX10_clashes 53 = .ok (.invokestatic 203, 3) := by decide +kernel
theorem dX10_clashes_56 : decode cX10_clashes 56 = .ok (.invokevirtual 181, 3) := by decide +kernel
theorem dX10_clashes_59 : decode cX10_clashes 59 = .ok (.ireturn, 1) := by decide +kernel
abbrev rmX10_clashes : Room := { frames := 3, cells := 0, slots := 0, locals := 62 }
set_option maxHeartbeats 4000000 in
set_option maxRecDepth 100000 in
theorem kX10_clashes (l : Launch) (D : va_G) (cy : Nat → ClassId) (h0 : Nat) (a0 : Nat → Nat) (a1 : Nat → Nat) (s0 : Rc) (s1 : Rc) (p1 : Int32) (p2 : Int32) (res : Int32 × Rc) (h : fX10_clashes p1 p2 s0 s1 = some res) : CI l D cy yX10_clashes wsX10_clashes rmX10_clashes [.ref h0, .int p1, .int p2] (flat [WX10 cy h0 a0 s0, WX0 cy (a0 0) a1 s1]) (flat [WX10 cy h0 a0 res.2, WX0 cy (a0 0) a1 s1]) res.1 := by
  refine CI.of (cc := cX10_clashes) (maxL := 5) (by decide) rfl (Nat.le_of_ble_eq_true rfl) ?_
  intro p e s m args below meth c A QQ ls E hr
  obtain ⟨hx, hb, hml, hown, hts, hK, hN, hP, hD, hA, hl⟩ := E
  have hret : ∀ (pc : Nat) (H : Heap) (locs : List Loc) (ls : Array Slot) (u : Int32 × Rc), u = res → va_P D vwCl (flat [WX10 cy h0 a0 u.2, WX0 cy (a0 0) a1 s1]) H → va_D A (flat [WX10 cy h0 a0 u.2, WX0 cy (a0 0) a1 s1]) → va_S A s.heap H locs → decode cX10_clashes pc = .ok (.ireturn, 1) → W p l e rmX10_clashes s m args below meth c H locs 0 0 QQ (F0 m pc ls [.int u.1]) := by
    intro pc H locs ls u hu hP hD hS hd; subst hu; exact hr pc H locs ls _ rfl hP hD hS hd
  clear hr
  have hl : lv_has ls 5 [(0, .ref h0), (1, .int p1), (2, .int p2)] := hl
  have hinX10 : ∀ w ∈ wsX100, w ∈ wsX10_clashes := fun _ h => List.mem_cons_of_mem _ (List.mem_append_left _ (List.mem_append_right _ h))
  unfold fX10_clashes at h
  suffices key : ∀ (H : Heap) (locs : List Loc), va_P D vwCl (flat [WX10 cy h0 a0 s0, WX0 cy (a0 0) a1 s1]) H → va_S A s.heap H locs → W p l e rmX10_clashes s m args below meth c H locs 0 0 QQ (F0 m 0 ls []) from key _ _ hP va_S.rf
  clear hP
  intro H locs hP hS
  refine lv_aload_n hx hb dX10_clashes_0 rfl (lv_at hl 0 rfl) ?_
  refine lv_iload_n hx hb dX10_clashes_1 rfl (lv_at hl 1 rfl) ?_
  refine lv_iload_n hx hb dX10_clashes_2 rfl (lv_at hl 2 rfl) ?_
  refine ca_z (w' := [WX10 cy h0 a0 s0, WX0 cy (a0 0) a1 s1]) (rn_V (As := [.int p1, .int p2]) (rest := []) ⟨hx, hb, hml, hown, hts⟩ (kX10_noCouple l D cy h0 a0 a1 s0 s1 p1 p2 _ rfl H.size) (cwV 2 hts gX10_clashes_X10_noCouple rfl rfl rfl (by decide +kernel) ⟨Nat.le_of_ble_eq_true rfl, Nat.le_of_ble_eq_true rfl⟩) hK hN hP hD [0, 1] rfl rfl (ci := 10) (q0 := 0) rfl rfl rfl rfl hl.1 rfl (Nat.le_of_ble_eq_true rfl) dX10_clashes_3 ⟨Nat.le_refl 0, Nat.le_refl 0⟩) hP hD hS hA [0, 1] ⟨rfl, rfl, rfl, rfl⟩ (fun b1 H locs hP hD hS => ?_)
  refine lv_if_eq (tgt := 15) hx hb dX10_clashes_6 (by decide) (fun c2 => ?_) (fun c2 => ?_)
  · replace h := (if_pos c2).symm.trans h
    refine lv_aload_n hx hb dX10_clashes_15 rfl (lv_at hl 0 rfl) ?_
    refine va_get (D := D) (ci := 10) (v := .ref (a0 0)) (C := RX10) (T := TX10) (N := 19) hx hb hts hinX10 hown hK hP 0 rfl rfl 0 (by decide) (hts (.fieldLink RX10 10 "KneeBench" "bench" "LKneeBench$Bench;") (List.mem_of_getElem? (i := 1) rfl)) (fun _ h9 => h9) rfl dX10_clashes_16 ?_
    refine lv_iload_n hx hb dX10_clashes_19 rfl (lv_at hl 1 rfl) ?_
    obtain ⟨r3, hr3, h⟩ := bd_elim h
    refine ca_l (w' := [WX10 cy h0 a0 s0, WX0 cy (a0 0) a1 s1]) (rn_V (As := [.int p1]) (rest := []) ⟨hx, hb, hml, hown, hts⟩ (kX0_toldDays l D cy (a0 0) a1 s1 p1 r3 hr3 H.size) (cwV 1 hts gX10_clashes_X0_toldDays rfl rfl rfl (by decide +kernel) ⟨Nat.le_of_ble_eq_true rfl, Nat.le_of_ble_eq_true rfl⟩) hK hN hP hD [1] rfl rfl (ci := 0) (q0 := 1) rfl rfl rfl rfl hl.1 rfl (Nat.le_of_ble_eq_true rfl) dX10_clashes_20 ⟨Nat.le_refl 0, Nat.le_refl 0⟩) hP hD hS hA [1] ⟨rfl, rfl, rfl, rfl⟩ (fun H locs hP hD hS => ?_)
    refine lv_aload_n hx hb dX10_clashes_23 rfl (lv_at hl 0 rfl) ?_
    refine va_get (D := D) (ci := 10) (v := .ref (a0 0)) (C := RX10) (T := TX10) (N := 19) hx hb hts hinX10 hown hK hP 0 rfl rfl 0 (by decide) (hts (.fieldLink RX10 10 "KneeBench" "bench" "LKneeBench$Bench;") (List.mem_of_getElem? (i := 1) rfl)) (fun _ h9 => h9) rfl dX10_clashes_24 ?_
    refine lv_iload_n hx hb dX10_clashes_27 rfl (lv_at hl 2 rfl) ?_
    obtain ⟨r4, hr4, h⟩ := bd_elim h
    refine ca_l (w' := [WX10 cy h0 a0 s0, WX0 cy (a0 0) a1 s1]) (rn_V (As := [.int p2]) (rest := [.long r3]) ⟨hx, hb, hml, hown, hts⟩ (kX0_toldDays l D cy (a0 0) a1 s1 p2 r4 hr4 H.size) (cwV 1 hts gX10_clashes_X0_toldDays rfl rfl rfl (by decide +kernel) ⟨Nat.le_of_ble_eq_true rfl, Nat.le_of_ble_eq_true rfl⟩) hK hN hP hD [1] rfl rfl (ci := 0) (q0 := 1) rfl rfl rfl rfl hl.1 rfl (Nat.le_of_ble_eq_true rfl) dX10_clashes_28 ⟨Nat.le_refl 0, Nat.le_refl 0⟩) hP hD hS hA [1] ⟨rfl, rfl, rfl, rfl⟩ (fun H locs hP hD hS => ?_)
    refine lv_land hx hb dX10_clashes_31 ?_
    refine lv_topl (fun x5 ex5 => ?_)
    replace h := lt_use h x5 ex5
    refine lv_lstore_n (lv' := [(3, .long x5), (0, .ref h0), (1, .int p1), (2, .int p2)]) hx hb dX10_clashes_32 rfl hl (by decide) rfl (fun ls hl => ?_)
    refine lv_aload_n hx hb dX10_clashes_33 rfl (lv_at hl 1 rfl) ?_
    refine lv_lload_n hx hb dX10_clashes_34 rfl (lv_at hl 0 rfl) ?_
    refine lv_aload_n hx hb dX10_clashes_35 rfl (lv_at hl 1 rfl) ?_
    refine va_get (D := D) (ci := 10) (v := .ref (a0 0)) (C := RX10) (T := TX10) (N := 19) hx hb hts hinX10 hown hK hP 0 rfl rfl 0 (by decide) (hts (.fieldLink RX10 10 "KneeBench" "bench" "LKneeBench$Bench;") (List.mem_of_getElem? (i := 1) rfl)) (fun _ h9 => h9) rfl dX10_clashes_36 ?_
    refine lv_iload_n hx hb dX10_clashes_39 rfl (lv_at hl 2 rfl) ?_
    obtain ⟨r6, hr6, h⟩ := bd_elim h
    refine ca_l (w' := [WX10 cy h0 a0 s0, WX0 cy (a0 0) a1 s1]) (rn_V (As := [.int p1]) (rest := [.long x5, .ref h0]) ⟨hx, hb, hml, hown, hts⟩ (kX0_rainDays l D cy (a0 0) a1 s1 p1 r6 hr6 H.size) (cwV 1 hts gX10_clashes_X0_rainDays rfl rfl rfl (by decide +kernel) ⟨Nat.le_of_ble_eq_true rfl, Nat.le_of_ble_eq_true rfl⟩) hK hN hP hD [1] rfl rfl (ci := 0) (q0 := 1) rfl rfl rfl rfl hl.1 rfl (Nat.le_of_ble_eq_true rfl) dX10_clashes_40 ⟨Nat.le_refl 0, Nat.le_refl 0⟩) hP hD hS hA [1] ⟨rfl, rfl, rfl, rfl⟩ (fun H locs hP hD hS => ?_)
    refine lv_aload_n hx hb dX10_clashes_43 rfl (lv_at hl 1 rfl) ?_
    refine va_get (D := D) (ci := 10) (v := .ref (a0 0)) (C := RX10) (T := TX10) (N := 19) hx hb hts hinX10 hown hK hP 0 rfl rfl 0 (by decide) (hts (.fieldLink RX10 10 "KneeBench" "bench" "LKneeBench$Bench;") (List.mem_of_getElem? (i := 1) rfl)) (fun _ h9 => h9) rfl dX10_clashes_44 ?_
    refine lv_iload_n hx hb dX10_clashes_47 rfl (lv_at hl 3 rfl) ?_
    obtain ⟨r7, hr7, h⟩ := bd_elim h
    refine ca_l (w' := [WX10 cy h0 a0 s0, WX0 cy (a0 0) a1 s1]) (rn_V (As := [.int p2]) (rest := [.long r6, .long x5, .ref h0]) ⟨hx, hb, hml, hown, hts⟩ (kX0_rainDays l D cy (a0 0) a1 s1 p2 r7 hr7 H.size) (cwV 1 hts gX10_clashes_X0_rainDays rfl rfl rfl (by decide +kernel) ⟨Nat.le_of_ble_eq_true rfl, Nat.le_of_ble_eq_true rfl⟩) hK hN hP hD [1] rfl rfl (ci := 0) (q0 := 1) rfl rfl rfl rfl hl.1 rfl (Nat.le_of_ble_eq_true rfl) dX10_clashes_48 ⟨Nat.le_refl 0, Nat.le_refl 0⟩) hP hD hS hA [1] ⟨rfl, rfl, rfl, rfl⟩ (fun H locs hP hD hS => ?_)
    refine lv_lxor hx hb dX10_clashes_51 ?_
    refine lv_land hx hb dX10_clashes_52 ?_
    refine ca_i (w' := [WX10 cy h0 a0 s0, WX0 cy (a0 0) a1 s1]) (rn_S (As := [.long (x5 &&& (r6 ^^^ r7))]) (rest := [.ref h0]) ⟨hx, hb, hml, hown, hts⟩ (kJ13_bitCount_95d88 l D cy (x5 &&& (r6 ^^^ r7)) _ rfl H.size) (va_cwS 1 hts gX10_clashes_J13_bitCount_95d88 rfl rfl rfl (by decide +kernel) ⟨Nat.le_of_ble_eq_true rfl, Nat.le_of_ble_eq_true rfl⟩) hK hN hP hD [] rfl rfl rfl hl.1 rfl (Nat.le_of_ble_eq_true rfl) dX10_clashes_53 ⟨Nat.le_refl 0, Nat.le_refl 0⟩) hP hD hS hA [] ⟨rfl, rfl, rfl, rfl⟩ (fun H locs hP hD hS => ?_)
    obtain ⟨r8, hr8, h⟩ := lt_elim h
    refine ca_i (w' := [WX10 cy h0 a0 r8.2, WX0 cy (a0 0) a1 s1]) (rn_V (As := [.int (fJ13_bitCount_95d88 (x5 &&& (r6 ^^^ r7)))]) (rest := []) ⟨hx, hb, hml, hown, hts⟩ (kX10_answer l D cy h0 a0 s0 (fJ13_bitCount_95d88 (x5 &&& (r6 ^^^ r7))) r8 hr8.symm H.size) (cwV 1 hts gX10_clashes_X10_answer rfl rfl rfl (by decide +kernel) ⟨Nat.le_of_ble_eq_true rfl, Nat.le_of_ble_eq_true rfl⟩) hK hN hP hD [0] rfl rfl (ci := 10) (q0 := 0) rfl rfl rfl rfl hl.1 rfl (Nat.le_of_ble_eq_true rfl) dX10_clashes_56 ⟨Nat.le_refl 0, Nat.le_refl 0⟩) hP hD hS hA [0] ⟨rfl, rfl, rfl, rfl⟩ (fun H locs hP hD hS => ?_)
    exact hret 59 H locs ls (r8.1, r8.2) (Option.some.inj h) hP hD hS dX10_clashes_59
  · replace h := (if_neg c2).symm.trans h
    refine lv_aload_n hx hb dX10_clashes_9 rfl (lv_at hl 0 rfl) ?_
    refine lv_iconst (v := 1) hx hb dX10_clashes_10 (by decide) ?_
    obtain ⟨r9, hr9, h⟩ := lt_elim h
    refine ca_i (w' := [WX10 cy h0 a0 r9.2, WX0 cy (a0 0) a1 s1]) (rn_V (As := [.int (1 : Int32)]) (rest := []) ⟨hx, hb, hml, hown, hts⟩ (kX10_refuse l D cy h0 a0 s0 (1 : Int32) r9 hr9.symm H.size) (cwV 1 hts gX10_clashes_X10_refuse rfl rfl rfl (by decide +kernel) ⟨Nat.le_of_ble_eq_true rfl, Nat.le_of_ble_eq_true rfl⟩) hK hN hP hD [0] rfl rfl (ci := 10) (q0 := 0) rfl rfl rfl rfl hl.1 rfl (Nat.le_of_ble_eq_true rfl) dX10_clashes_11 ⟨Nat.le_refl 0, Nat.le_refl 0⟩) hP hD hS hA [0] ⟨rfl, rfl, rfl, rfl⟩ (fun H locs hP hD hS => ?_)
    exact hret 14 H locs ls (r9.1, r9.2) (Option.some.inj h) hP hD hS dX10_clashes_14
theorem dX10_commonDivisor_0 : decode cX10_commonDivisor 0 = .ok (.iconst 0, 1) := by decide +kernel
theorem dX10_commonDivisor_1 : decode cX10_commonDivisor 1 = .ok (.istore 4, 2) := by decide +kernel
theorem dX10_commonDivisor_3 : decode cX10_commonDivisor 3 = .ok (.iload 4, 2) := by decide +kernel
theorem dX10_commonDivisor_5 : decode cX10_commonDivisor 5 = .ok (.sipush 200, 3) := by decide +kernel
theorem dX10_commonDivisor_8 : decode cX10_commonDivisor 8 = .ok (.if_icmp .ge 25, 3) := by decide +kernel
theorem dX10_commonDivisor_11 : decode cX10_commonDivisor 11 = .ok (.lload_n 2, 1) := by decide +kernel
theorem dX10_commonDivisor_12 : decode cX10_commonDivisor 12 = .ok (.lconst 0, 1) := by decide +kernel
theorem dX10_commonDivisor_13 : decode cX10_commonDivisor 13 = .ok (.lcmp, 1) := by decide +kernel
theorem dX10_commonDivisor_14 : decode cX10_commonDivisor 14 = .ok (.ifCond .eq 19, 3) := by decide +kernel
theorem dX10_commonDivisor_17 : decode cX10_commonDivisor 17 = .ok (.lload_n 0, 1) := by decide +kernel
theorem dX10_commonDivisor_18 : decode cX10_commonDivisor 18 = .ok (.lload_n 2, 1) := by decide +kernel
theorem dX10_commonDivisor_19 : decode cX10_commonDivisor 19 = .ok (.lrem, 1) := by decide +kernel
theorem dX10_commonDivisor_20 : decode cX10_commonDivisor 20 = .ok (.lstore 5, 2) := by decide +kernel
theorem dX10_commonDivisor_22 : decode cX10_commonDivisor 22 = .ok (.lload_n 2, 1) := by decide +kernel
theorem dX10_commonDivisor_23 : decode cX10_commonDivisor 23 = .ok (.lstore_n 0, 1) := by decide +kernel
theorem dX10_commonDivisor_24 : decode cX10_commonDivisor 24 = .ok (.lload 5, 2) := by decide +kernel
theorem dX10_commonDivisor_26 : decode cX10_commonDivisor 26 = .ok (.lstore_n 2, 1) := by decide +kernel
theorem dX10_commonDivisor_27 : decode cX10_commonDivisor 27 = .ok (.iinc 4 1, 3) := by decide +kernel
theorem dX10_commonDivisor_30 : decode cX10_commonDivisor 30 = .ok (.goto (-27), 3) := by decide +kernel
theorem dX10_commonDivisor_33 : decode cX10_commonDivisor 33 = .ok (.lload_n 0, 1) := by decide +kernel
theorem dX10_commonDivisor_34 : decode cX10_commonDivisor 34 = .ok (.lreturn, 1) := by decide +kernel
abbrev rmX10_commonDivisor : Room := { frames := 0, cells := 0, slots := 0, locals := 0 }
set_option maxHeartbeats 4000000 in
set_option maxRecDepth 100000 in
theorem kX10_commonDivisor (l : Launch) (D : va_G) (cy : Nat → ClassId) (p1 : Int64) (p2 : Int64) (res : Int64) (h : fX10_commonDivisor p1 p2 = some res) : CL l D cy yX10_commonDivisor wsX10_commonDivisor rmX10_commonDivisor [.long p1, .long p2] (flat []) (flat []) res := by
  refine CL.of (cc := cX10_commonDivisor) (maxL := 7) (by decide) rfl (Nat.le_of_ble_eq_true rfl) ?_
  intro p e s m args below meth c A QQ ls E hr
  obtain ⟨hx, hb, hml, hown, hts, hK, hN, hP, hD, hA, hl⟩ := E
  have hret : ∀ (pc : Nat) (H : Heap) (locs : List Loc) (ls : Array Slot) (u : Int64), u = res → va_P D vwCl (flat []) H → va_D A (flat []) → va_S A s.heap H locs → decode cX10_commonDivisor pc = .ok (.lreturn, 1) → W p l e rmX10_commonDivisor s m args below meth c H locs 0 0 QQ (F0 m pc ls [.long u]) := by
    intro pc H locs ls u hu hP hD hS hd; subst hu; exact hr pc H locs ls _ rfl hP hD hS hd
  clear hr
  have hl : lv_has ls 7 [(0, .long p1), (2, .long p2)] := hl
  unfold fX10_commonDivisor at h
  suffices key : ∀ (H : Heap) (locs : List Loc), va_P D vwCl (flat []) H → va_S A s.heap H locs → W p l e rmX10_commonDivisor s m args below meth c H locs 0 0 QQ (F0 m 0 ls []) from key _ _ hP va_S.rf
  clear hP
  intro H locs hP hS
  refine lv_iconst (v := 0) hx hb dX10_commonDivisor_0 (by decide) ?_
  refine lv_istore (lv' := [(4, .int (0 : Int32)), (0, .long p1), (2, .long p2)]) hx hb dX10_commonDivisor_1 hl (by decide) rfl (fun ls hl => ?_)
  have L3 : ∀ (n : Nat) (q3 : Int64 × Int64 × Int32) (o : Int64), loopO (fX10_commonDivisor_L3) n q3 = some o → ∀ (H : Heap) (locs : List Loc) (ls : Array Slot), lv_has ls 7 [(0, .long q3.1), (2, .long q3.2.1), (4, .int q3.2.2)] → va_P D vwCl (flat []) H → va_D A (flat []) → va_S A s.heap H locs → ∀ (kk33 : ∀ (H : Heap) (locs : List Loc) (ls : Array Slot), lv_has ls 7 [(0, .long o)] → va_P D vwCl (flat []) H → va_D A (flat []) → va_S A s.heap H locs → W p l e rmX10_commonDivisor s m args below meth c H locs 0 0 QQ (F0 m 33 ls [])), W p l e rmX10_commonDivisor s m args below meth c H locs 0 0 QQ (F0 m 3 ls []) := by
    intro n
    induction n with
    | zero => intro q3 o h; exact absurd h (by rw [loopO_zero]; intro z; cases z)
    | succ n ih =>
      intro q3 o h H locs ls hl hP hD hS kk33
      obtain ⟨w, h, hgo, hst⟩ := loopO_elim h
      unfold fX10_commonDivisor_L3 at h
      refine lv_iload hx hb dX10_commonDivisor_3 (lv_at hl 2 rfl) ?_
      refine lv_sipush (v := 200) hx hb dX10_commonDivisor_5 (by decide) ?_
      refine lv_icmp_ge (tgt := 33) hx hb dX10_commonDivisor_8 (by decide) (fun c1 => ?_) (fun c1 => ?_)
      · replace h := (if_pos c1).symm.trans h
        have eo := hst _ (Option.some.inj h).symm
        subst eo
        exact kk33 H locs ls (lv_sub hl [0] rfl) hP hD hS
      · replace h := (if_neg c1).symm.trans h
        refine lv_lload_n hx hb dX10_commonDivisor_11 rfl (lv_at hl 1 rfl) ?_
        refine lv_lconst (v := 0) hx hb dX10_commonDivisor_12 (by decide) ?_
        refine W.lcmp hx hb dX10_commonDivisor_13 ?_
        refine lv_if_eq (tgt := 33) hx hb dX10_commonDivisor_14 (by decide) (fun c2 => ?_) (fun c2 => ?_)
        · replace h := (if_pos (lg_ceq.mp c2)).symm.trans h
          have eo := hst _ (Option.some.inj h).symm
          subst eo
          exact kk33 H locs ls (lv_sub hl [0] rfl) hP hD hS
        · replace h := (if_neg (fun z => c2 (lg_ceq.mpr z))).symm.trans h
          refine lv_lload_n hx hb dX10_commonDivisor_17 rfl (lv_at hl 0 rfl) ?_
          refine lv_lload_n hx hb dX10_commonDivisor_18 rfl (lv_at hl 1 rfl) ?_
          obtain ⟨g3, h⟩ := gd_elim h
          refine lv_lrem hx hb dX10_commonDivisor_19 (nz64_ne g3) ?_
          refine lv_topl (fun x4 ex4 => ?_)
          replace h := lt_use h x4 ex4
          refine lv_lstore (lv' := [(5, .long x4), (0, .long q3.1), (2, .long q3.2.1), (4, .int q3.2.2)]) hx hb dX10_commonDivisor_20 hl (by decide) rfl (fun ls hl => ?_)
          refine lv_lload_n hx hb dX10_commonDivisor_22 rfl (lv_at hl 2 rfl) ?_
          refine lv_lstore_n (lv' := [(0, .long q3.2.1), (5, .long x4), (2, .long q3.2.1), (4, .int q3.2.2)]) hx hb dX10_commonDivisor_23 rfl hl (by decide) rfl (fun ls hl => ?_)
          refine lv_lload hx hb dX10_commonDivisor_24 (lv_at hl 1 rfl) ?_
          refine lv_lstore_n (lv' := [(2, .long x4), (0, .long q3.2.1), (5, .long x4), (4, .int q3.2.2)]) hx hb dX10_commonDivisor_26 rfl hl (by decide) rfl (fun ls hl => ?_)
          refine lv_iinc (v := (q3.2.2 + (1 : Int32))) (lv' := [(4, .int (q3.2.2 + (1 : Int32))), (2, .long x4), (0, .long q3.2.1), (5, .long x4)]) hx hb dX10_commonDivisor_27 hl (k := 3) rfl rfl (by decide) rfl (fun ls hl => ?_)
          refine lv_goto (tgt := 3) hx hb dX10_commonDivisor_30 (by decide) ?_
          exact ih _ o (hgo _ (Option.some.inj h).symm) H locs ls (lv_sub hl [2, 1, 0] rfl) hP hD hS kk33
  obtain ⟨o3, ho3, h⟩ := bd_elim h
  obtain ⟨n3, hn3⟩ := loopF_some ho3
  refine L3 n3 _ o3 hn3 H locs ls (lv_sub hl [1, 2, 0] rfl) hP hD hS (fun H locs ls hl hP hD hS => ?_)
  refine lv_lload_n hx hb dX10_commonDivisor_33 rfl (lv_at hl 0 rfl) ?_
  exact hret 34 H locs ls o3 (Option.some.inj h) hP hD hS dX10_commonDivisor_34
set_option maxRecDepth 20000 in
theorem ggX10_cure_X10_noFarmer : GoodIn wsX10_cure wsX10_noFarmer := goodIn_r _ [6, 1, 19, 20, 21, 22, 23, 24, 25, 26, 27, 28, 29, 30, 31, 32, 33, 34, 35, 36, 37, 38, 39, 40, 41, 42, 43, 44, 45, 46, 47, 48, 49, 50, 51] (by decide +kernel) (by decide +kernel)
set_option maxRecDepth 20000 in
theorem gX10_cure_X10_noFarmer : GoodIn wsX10_cure (wsV RX10 215 RX10 yX10_noFarmer wsX10_noFarmer) := goodIn_app (goodIn_of _ (by decide +kernel)) ggX10_cure_X10_noFarmer
set_option maxRecDepth 20000 in
theorem ggX10_cure_X10_outside : GoodIn wsX10_cure wsX10_outside := goodIn_r _ [9] (by decide +kernel) (by decide +kernel)
set_option maxRecDepth 20000 in
theorem gX10_cure_X10_outside : GoodIn wsX10_cure (va_wsS RX10 116 yX10_outside wsX10_outside) := goodIn_app (goodIn_of _ (by decide +kernel)) ggX10_cure_X10_outside
set_option maxRecDepth 20000 in
theorem ggX10_cure_X10_deny : GoodIn wsX10_cure wsX10_deny := goodIn_r _ [13, 14, 19, 20, 21, 22, 23, 24, 25, 26, 27, 28, 29, 30, 31, 32, 33, 34, 35, 36, 37] (by decide +kernel) (by decide +kernel)
set_option maxRecDepth 20000 in
theorem gX10_cure_X10_deny : GoodIn wsX10_cure (wsV RX10 120 RX10 yX10_deny wsX10_deny) := goodIn_app (goodIn_of _ (by decide +kernel)) ggX10_cure_X10_deny
set_option maxRecDepth 20000 in
theorem ggX10_cure_X10_allow : GoodIn wsX10_cure wsX10_allow := goodIn_r _ [18, 14, 19, 20, 21, 22, 23, 24, 25, 26, 27, 28, 29, 30, 31, 32, 33, 34, 35, 36, 37] (by decide +kernel) (by decide +kernel)
set_option maxRecDepth 20000 in
theorem gX10_cure_X10_allow : GoodIn wsX10_cure (wsV RX10 127 RX10 yX10_allow wsX10_allow) := goodIn_app (goodIn_of _ (by decide +kernel)) ggX10_cure_X10_allow
theorem dX10_cure_0 : decode cX10_cure 0 = .ok (.aload_n 0, 1) := by decide +kernel
theorem dX10_cure_1 : decode cX10_cure 1 = .ok (.iload_n 1, 1) := by decide +kernel
theorem dX10_cure_2 : decode cX10_cure 2 = .ok (.invokevirtual 215, 3) := by decide +kernel
theorem dX10_cure_5 : decode cX10_cure 5 = .ok (.ifCond .ne 13, 3) := by decide +kernel
theorem dX10_cure_8 : decode cX10_cure 8 = .ok (.iload_n 2, 1) := by decide +kernel
theorem dX10_cure_9 : decode cX10_cure 9 = .ok (.iconst 0, 1) := by decide +kernel
theorem dX10_cure_10 : decode cX10_cure 10 = .ok (.bipush 60, 2) := by decide +kernel
theorem dX10_cure_12 : decode cX10_cure 12 = .ok (.invokestatic 116, 3) := by decide +kernel
theorem dX10_cure_15 : decode cX10_cure 15 = .ok (.ifCond .eq 9, 3) := by decide +kernel
theorem dX10_cure_18 : decode cX10_cure 18 = .ok (.aload_n 0, 1) := by decide +kernel
theorem dX10_cure_19 : decode cX10_cure 19 = .ok (.iconst 1, 1) := by decide +kernel
theorem dX10_cure_20 : decode cX10_cure 20 = .ok (.invokevirtual 120, 3) := by decide +kernel
theorem dX10_cure_23 : decode cX10_cure 23 = .ok (.ireturn, 1) := by decide +kernel
theorem dX10_cure_24 : decode cX10_cure 24 = .ok (.aload_n 0, 1) := by decide +kernel
theorem dX10_cure_25 : decode cX10_cure 25 = .ok (.getfield 10, 3) := by decide +kernel
theorem dX10_cure_28 : decode cX10_cure 28 = .ok (.getfield 234, 3) := by decide +kernel
theorem dX10_cure_31 : decode cX10_cure 31 = .ok (.iload_n 1, 1) := by decide +kernel
theorem dX10_cure_32 : decode cX10_cure 32 = .ok (.iload_n 2, 1) := by decide +kernel
theorem dX10_cure_33 : decode cX10_cure 33 = .ok (.iastore, 1) := by decide +kernel
theorem dX10_cure_34 : decode cX10_cure 34 = .ok (.aload_n 0, 1) := by decide +kernel
theorem dX10_cure_35 : decode cX10_cure 35 = .ok (.invokevirtual 127, 3) := by decide +kernel
theorem dX10_cure_38 : decode cX10_cure 38 = .ok (.ireturn, 1) := by decide +kernel
abbrev rmX10_cure : Room := { frames := 1, cells := 0, slots := 0, locals := 22 }
set_option maxHeartbeats 4000000 in
set_option maxRecDepth 100000 in
theorem kX10_cure (l : Launch) (D : va_G) (cy : Nat → ClassId) (h0 : Nat) (a0 : Nat → Nat) (a1 : Nat → Nat) (s0 : Rc) (s1 : Rc) (p1 : Int32) (p2 : Int32) (res : Int32 × Rc × Rc) (h : fX10_cure p1 p2 s0 s1 = some res) : CZ l D cy yX10_cure wsX10_cure rmX10_cure [.ref h0, .int p1, .int p2] (flat [WX10 cy h0 a0 s0, WX0 cy (a0 0) a1 s1]) (flat [WX10 cy h0 a0 res.2.1, WX0 cy (a0 0) a1 res.2.2]) res.1 := by
  refine CZ.of (cc := cX10_cure) (maxL := 3) (by decide) rfl (Nat.le_of_ble_eq_true rfl) ?_
  intro p e s m args below meth c A QQ ls E hr
  obtain ⟨hx, hb, hml, hown, hts, hK, hN, hP, hD, hA, hl⟩ := E
  have hret : ∀ (pc : Nat) (H : Heap) (locs : List Loc) (ls : Array Slot) (u : Int32 × Rc × Rc), u = res → va_P D vwCl (flat [WX10 cy h0 a0 u.2.1, WX0 cy (a0 0) a1 u.2.2]) H → va_D A (flat [WX10 cy h0 a0 u.2.1, WX0 cy (a0 0) a1 u.2.2]) → va_S A s.heap H locs → isb u.1 = true → decode cX10_cure pc = .ok (.ireturn, 1) → W p l e rmX10_cure s m args below meth c H locs 0 0 QQ (F0 m pc ls [.int u.1]) := by
    intro pc H locs ls u hu hP hD hS hz hd; subst hu; exact hr pc H locs ls _ rfl hP hD hS hz hd
  clear hr
  have hl : lv_has ls 3 [(0, .ref h0), (1, .int p1), (2, .int p2)] := hl
  have hinX0 : ∀ w ∈ wsX00, w ∈ wsX10_cure := fun _ h => List.mem_cons_of_mem _ (List.mem_append_right _ h)
  have hinX10 : ∀ w ∈ wsX100, w ∈ wsX10_cure := fun _ h => List.mem_cons_of_mem _ (List.mem_append_left _ (List.mem_append_right _ h))
  unfold fX10_cure at h
  suffices key : ∀ (H : Heap) (locs : List Loc), va_P D vwCl (flat [WX10 cy h0 a0 s0, WX0 cy (a0 0) a1 s1]) H → va_S A s.heap H locs → W p l e rmX10_cure s m args below meth c H locs 0 0 QQ (F0 m 0 ls []) from key _ _ hP va_S.rf
  clear hP
  intro H locs hP hS
  refine lv_aload_n hx hb dX10_cure_0 rfl (lv_at hl 0 rfl) ?_
  refine lv_iload_n hx hb dX10_cure_1 rfl (lv_at hl 1 rfl) ?_
  refine ca_z (w' := [WX10 cy h0 a0 s0, WX0 cy (a0 0) a1 s1]) (rn_V (As := [.int p1]) (rest := []) ⟨hx, hb, hml, hown, hts⟩ (kX10_noFarmer l D cy h0 a0 a1 s0 s1 p1 _ rfl H.size) (cwV 1 hts gX10_cure_X10_noFarmer rfl rfl rfl (by decide +kernel) ⟨Nat.le_of_ble_eq_true rfl, Nat.le_of_ble_eq_true rfl⟩) hK hN hP hD [0, 1] rfl rfl (ci := 10) (q0 := 0) rfl rfl rfl rfl hl.1 rfl (Nat.le_of_ble_eq_true rfl) dX10_cure_2 ⟨Nat.le_refl 0, Nat.le_refl 0⟩) hP hD hS hA [0, 1] ⟨rfl, rfl, rfl, rfl⟩ (fun b1 H locs hP hD hS => ?_)
  refine lv_if_ne (tgt := 18) hx hb dX10_cure_5 (by decide) (fun c2 => ?_) (fun c2 => ?_)
  · replace h := (if_neg c2).symm.trans h
    refine lv_aload_n hx hb dX10_cure_18 rfl (lv_at hl 0 rfl) ?_
    refine lv_iconst (v := 1) hx hb dX10_cure_19 (by decide) ?_
    obtain ⟨r3, hr3, h⟩ := lt_elim h
    refine ca_z (w' := [WX10 cy h0 a0 r3.2, WX0 cy (a0 0) a1 s1]) (rn_V (As := [.int (1 : Int32)]) (rest := []) ⟨hx, hb, hml, hown, hts⟩ (kX10_deny l D cy h0 a0 s0 (1 : Int32) r3 hr3.symm H.size) (cwV 1 hts gX10_cure_X10_deny rfl rfl rfl (by decide +kernel) ⟨Nat.le_of_ble_eq_true rfl, Nat.le_of_ble_eq_true rfl⟩) hK hN hP hD [0] rfl rfl (ci := 10) (q0 := 0) rfl rfl rfl rfl hl.1 rfl (Nat.le_of_ble_eq_true rfl) dX10_cure_20 ⟨Nat.le_refl 0, Nat.le_refl 0⟩) hP hD hS hA [0] ⟨rfl, rfl, rfl, rfl⟩ (fun b4 H locs hP hD hS => ?_)
    exact hret 23 H locs ls (r3.1, r3.2, s1) (Option.some.inj h) hP hD hS b4 dX10_cure_23
  · replace h := (if_pos c2).symm.trans h
    refine lv_iload_n hx hb dX10_cure_8 rfl (lv_at hl 2 rfl) ?_
    refine lv_iconst (v := 0) hx hb dX10_cure_9 (by decide) ?_
    refine lv_bipush (v := 60) hx hb dX10_cure_10 (by decide) ?_
    refine ca_z (w' := [WX10 cy h0 a0 s0, WX0 cy (a0 0) a1 s1]) (rn_S (As := [.int p2, .int (0 : Int32), .int (60 : Int32)]) (rest := []) ⟨hx, hb, hml, hown, hts⟩ (kX10_outside l D cy p2 (0 : Int32) (60 : Int32) _ rfl H.size) (va_cwS 3 hts gX10_cure_X10_outside rfl rfl rfl (by decide +kernel) ⟨Nat.le_of_ble_eq_true rfl, Nat.le_of_ble_eq_true rfl⟩) hK hN hP hD [] rfl rfl rfl hl.1 rfl (Nat.le_of_ble_eq_true rfl) dX10_cure_12 ⟨Nat.le_refl 0, Nat.le_refl 0⟩) hP hD hS hA [] ⟨rfl, rfl, rfl, rfl⟩ (fun b5 H locs hP hD hS => ?_)
    refine lv_if_eq (tgt := 24) hx hb dX10_cure_15 (by decide) (fun c6 => ?_) (fun c6 => ?_)
    · replace h := (if_pos c6).symm.trans h
      refine lv_aload_n hx hb dX10_cure_24 rfl (lv_at hl 0 rfl) ?_
      refine va_get (D := D) (ci := 10) (v := .ref (a0 0)) (C := RX10) (T := TX10) (N := 19) hx hb hts hinX10 hown hK hP 0 rfl rfl 0 (by decide) (hts (.fieldLink RX10 10 "KneeBench" "bench" "LKneeBench$Bench;") (List.mem_of_getElem? (i := 1) rfl)) (fun _ h9 => h9) rfl dX10_cure_25 ?_
      refine va_getN (D := D) (ci := 0) (v := .ref (a1 4)) (C := RX0) (T := TX0) (N := 14) hx hb hts hinX0 hown hK hP 1 rfl rfl 4 (by decide) (NW.fld hN 10 rfl _) (fun _ h9 => h9) rfl dX10_cure_28 ?_
      refine lv_iload_n hx hb dX10_cure_31 rfl (lv_at hl 1 rfl) ?_
      refine lv_iload_n hx hb dX10_cure_32 rfl (lv_at hl 2 rfl) ?_
      obtain ⟨g7, h⟩ := gd_elim h
      obtain ⟨s1_8, es, h⟩ := lt_elim h
      refine va_iast hx hb hK hP hD hS 6 1 rfl rfl (inb_in g7) dX10_cure_33 (fun H locs hP hD hS => ?_)
      have hP : va_P D vwCl (flat [WX10 cy h0 a0 s0, WX0 cy (a0 0) a1 s1_8]) H := by rw [es]; exact hP
      have hD : va_D A (flat [WX10 cy h0 a0 s0, WX0 cy (a0 0) a1 s1_8]) := by rw [es]; exact hD
      clear es
      refine lv_aload_n hx hb dX10_cure_34 rfl (lv_at hl 0 rfl) ?_
      obtain ⟨r9, hr9, h⟩ := lt_elim h
      refine ca_z (w' := [WX10 cy h0 a0 r9.2, WX0 cy (a0 0) a1 s1_8]) (rn_V (As := []) (rest := []) ⟨hx, hb, hml, hown, hts⟩ (kX10_allow l D cy h0 a0 s0 r9 hr9.symm H.size) (cwV 0 hts gX10_cure_X10_allow rfl rfl rfl (by decide +kernel) ⟨Nat.le_of_ble_eq_true rfl, Nat.le_of_ble_eq_true rfl⟩) hK hN hP hD [0] rfl rfl (ci := 10) (q0 := 0) rfl rfl rfl rfl hl.1 rfl (Nat.le_of_ble_eq_true rfl) dX10_cure_35 ⟨Nat.le_refl 0, Nat.le_refl 0⟩) hP hD hS hA [0] ⟨rfl, rfl, rfl, rfl⟩ (fun b10 H locs hP hD hS => ?_)
      exact hret 38 H locs ls (r9.1, r9.2, s1_8) (Option.some.inj h) hP hD hS b10 dX10_cure_38
    · replace h := (if_neg c6).symm.trans h
      refine lv_aload_n hx hb dX10_cure_18 rfl (lv_at hl 0 rfl) ?_
      refine lv_iconst (v := 1) hx hb dX10_cure_19 (by decide) ?_
      obtain ⟨r11, hr11, h⟩ := lt_elim h
      refine ca_z (w' := [WX10 cy h0 a0 r11.2, WX0 cy (a0 0) a1 s1]) (rn_V (As := [.int (1 : Int32)]) (rest := []) ⟨hx, hb, hml, hown, hts⟩ (kX10_deny l D cy h0 a0 s0 (1 : Int32) r11 hr11.symm H.size) (cwV 1 hts gX10_cure_X10_deny rfl rfl rfl (by decide +kernel) ⟨Nat.le_of_ble_eq_true rfl, Nat.le_of_ble_eq_true rfl⟩) hK hN hP hD [0] rfl rfl (ci := 10) (q0 := 0) rfl rfl rfl rfl hl.1 rfl (Nat.le_of_ble_eq_true rfl) dX10_cure_20 ⟨Nat.le_refl 0, Nat.le_refl 0⟩) hP hD hS hA [0] ⟨rfl, rfl, rfl, rfl⟩ (fun b12 H locs hP hD hS => ?_)
      exact hret 23 H locs ls (r11.1, r11.2, s1) (Option.some.inj h) hP hD hS b12 dX10_cure_23
set_option maxRecDepth 20000 in
theorem ggX10_day_X10_outside : GoodIn wsX10_day wsX10_outside := goodIn_r _ [5] (by decide +kernel) (by decide +kernel)
set_option maxRecDepth 20000 in
theorem gX10_day_X10_outside : GoodIn wsX10_day (va_wsS RX10 116 yX10_outside wsX10_outside) := goodIn_app (goodIn_of _ (by decide +kernel)) ggX10_day_X10_outside
set_option maxRecDepth 20000 in
theorem ggX10_day_X10_refuse : GoodIn wsX10_day wsX10_refuse := goodIn_r _ [9, 10, 28, 29, 30, 31, 32, 33, 34, 35, 36, 37, 38, 39, 40, 41, 42, 43, 44, 45, 46] (by decide +kernel) (by decide +kernel)
set_option maxRecDepth 20000 in
theorem gX10_day_X10_refuse : GoodIn wsX10_day (wsV RX10 139 RX10 yX10_refuse wsX10_refuse) := goodIn_app (goodIn_of _ (by decide +kernel)) ggX10_day_X10_refuse
set_option maxRecDepth 20000 in
theorem ggX10_day_X0_canAddDay : GoodIn wsX10_day wsX0_canAddDay := goodIn_r _ [15, 16, 47, 48, 49, 50, 51, 52, 53, 54, 55, 56, 57, 58, 59, 60] (by decide +kernel) (by decide +kernel)
set_option maxRecDepth 20000 in
theorem gX10_day_X0_canAddDay : GoodIn wsX10_day (wsV RX10 275 RX0 yX0_canAddDay wsX0_canAddDay) := goodIn_app (goodIn_of _ (by decide +kernel)) ggX10_day_X0_canAddDay
set_option maxRecDepth 20000 in
theorem ggX10_day_X0_addDay : GoodIn wsX10_day wsX0_addDay := goodIn_r _ [20, 21, 16, 22, 23, 12, 13, 14, 15, 47, 48, 49, 50, 51, 52, 53, 54, 55, 56, 57, 58, 59, 60] (by decide +kernel) (by decide +kernel)
set_option maxRecDepth 20000 in
theorem gX10_day_X0_addDay : GoodIn wsX10_day (wsV RX10 278 RX0 yX0_addDay wsX0_addDay) := goodIn_app (goodIn_of _ (by decide +kernel)) ggX10_day_X0_addDay
set_option maxRecDepth 20000 in
theorem ggX10_day_X10_answer : GoodIn wsX10_day wsX10_answer := goodIn_r _ [27, 10, 28, 29, 30, 31, 32, 33, 34, 35, 36, 37, 38, 39, 40, 41, 42, 43, 44, 45, 46] (by decide +kernel) (by decide +kernel)
set_option maxRecDepth 20000 in
theorem gX10_day_X10_answer : GoodIn wsX10_day (wsV RX10 181 RX10 yX10_answer wsX10_answer) := goodIn_app (goodIn_of _ (by decide +kernel)) ggX10_day_X10_answer
theorem dX10_day_0 : decode cX10_day 0 = .ok (.iload_n 1, 1) := by decide +kernel
theorem dX10_day_1 : decode cX10_day 1 = .ok (.iconst 0, 1) := by decide +kernel
theorem dX10_day_2 : decode cX10_day 2 = .ok (.iconst 2, 1) := by decide +kernel
theorem dX10_day_3 : decode cX10_day 3 = .ok (.invokestatic 116, 3) := by decide +kernel
theorem dX10_day_6 : decode cX10_day 6 = .ok (.ifCond .eq 9, 3) := by decide +kernel
theorem dX10_day_9 : decode cX10_day 9 = .ok (.aload_n 0, 1) := by decide +kernel
theorem dX10_day_10 : decode cX10_day 10 = .ok (.iconst 1, 1) := by decide +kernel
theorem dX10_day_11 : decode cX10_day 11 = .ok (.invokevirtual 139, 3) := by decide +kernel
theorem dX10_day_14 : decode cX10_day 14 = .ok (.ireturn, 1) := by decide +kernel
theorem dX10_day_15 : decode cX10_day 15 = .ok (.aload_n 0, 1) := by decide +kernel
theorem dX10_day_16 : decode cX10_day 16 = .ok (.getfield 10, 3) := by decide +kernel
theorem dX10_day_19 : decode cX10_day 19 = .ok (.invokevirtual 275, 3) := by decide +kernel
theorem dX10_day_22 : decode cX10_day 22 = .ok (.ifCond .ne 9, 3) := by decide +kernel
theorem dX10_day_25 : decode cX10_day 25 = .ok (.aload_n 0, 1) := by decide +kernel
theorem dX10_day_26 : decode cX10_day 26 = .ok (.iconst 4, 1) := by decide +kernel
theorem dX10_day_27 : decode cX10_day 27 = .ok (.invokevirtual 139, 3) := by decide +kernel
theorem dX10_day_30 : decode cX10_day 30 = .ok (.ireturn, 1) := by decide +kernel
theorem dX10_day_31 : decode cX10_day 31 = .ok (.aload_n 0, 1) := by decide +kernel
theorem dX10_day_32 : decode cX10_day 32 = .ok (.getfield 10, 3) := by decide +kernel
theorem dX10_day_35 : decode cX10_day 35 = .ok (.iload_n 1, 1) := by decide +kernel
theorem dX10_day_36 : decode cX10_day 36 = .ok (.invokevirtual 278, 3) := by decide +kernel
theorem dX10_day_39 : decode cX10_day 39 = .ok (.aload_n 0, 1) := by decide +kernel
theorem dX10_day_40 : decode cX10_day 40 = .ok (.aload_n 0, 1) := by decide +kernel
theorem dX10_day_41 : decode cX10_day 41 = .ok (.getfield 10, 3) := by decide +kernel
theorem dX10_day_44 : decode cX10_day 44 = .ok (.getfield 197, 3) := by decide +kernel
theorem dX10_day_47 : decode cX10_day 47 = .ok (.invokevirtual 181, 3) := by decide +kernel
theorem dX10_day_50 : decode cX10_day 50 = .ok (.ireturn, 1) := by decide +kernel
abbrev rmX10_day : Room := { frames := 2, cells := 0, slots := 0, locals := 41 }
set_option maxHeartbeats 4000000 in
set_option maxRecDepth 100000 in
theorem kX10_day (l : Launch) (D : va_G) (cy : Nat → ClassId) (h0 : Nat) (a0 : Nat → Nat) (a1 : Nat → Nat) (s0 : Rc) (s1 : Rc) (p1 : Int32) (res : Int32 × Rc × Rc) (h : fX10_day p1 s0 s1 = res) : CI l D cy yX10_day wsX10_day rmX10_day [.ref h0, .int p1] (flat [WX10 cy h0 a0 s0, WX0 cy (a0 0) a1 s1]) (flat [WX10 cy h0 a0 res.2.1, WX0 cy (a0 0) a1 res.2.2]) res.1 := by
  refine CI.of (cc := cX10_day) (maxL := 2) (by decide) rfl (Nat.le_of_ble_eq_true rfl) ?_
  intro p e s m args below meth c A QQ ls E hr
  obtain ⟨hx, hb, hml, hown, hts, hK, hN, hP, hD, hA, hl⟩ := E
  have hret : ∀ (pc : Nat) (H : Heap) (locs : List Loc) (ls : Array Slot) (u : Int32 × Rc × Rc), u = res → va_P D vwCl (flat [WX10 cy h0 a0 u.2.1, WX0 cy (a0 0) a1 u.2.2]) H → va_D A (flat [WX10 cy h0 a0 u.2.1, WX0 cy (a0 0) a1 u.2.2]) → va_S A s.heap H locs → decode cX10_day pc = .ok (.ireturn, 1) → W p l e rmX10_day s m args below meth c H locs 0 0 QQ (F0 m pc ls [.int u.1]) := by
    intro pc H locs ls u hu hP hD hS hd; subst hu; exact hr pc H locs ls _ rfl hP hD hS hd
  clear hr
  have hl : lv_has ls 2 [(0, .ref h0), (1, .int p1)] := hl
  have hinX0 : ∀ w ∈ wsX00, w ∈ wsX10_day := fun _ h => List.mem_cons_of_mem _ (List.mem_append_right _ h)
  have hinX10 : ∀ w ∈ wsX100, w ∈ wsX10_day := fun _ h => List.mem_cons_of_mem _ (List.mem_append_left _ (List.mem_append_right _ h))
  unfold fX10_day at h
  suffices key : ∀ (H : Heap) (locs : List Loc), va_P D vwCl (flat [WX10 cy h0 a0 s0, WX0 cy (a0 0) a1 s1]) H → va_S A s.heap H locs → W p l e rmX10_day s m args below meth c H locs 0 0 QQ (F0 m 0 ls []) from key _ _ hP va_S.rf
  clear hP
  intro H locs hP hS
  refine lv_iload_n hx hb dX10_day_0 rfl (lv_at hl 1 rfl) ?_
  refine lv_iconst (v := 0) hx hb dX10_day_1 (by decide) ?_
  refine lv_iconst (v := 2) hx hb dX10_day_2 (by decide) ?_
  refine ca_z (w' := [WX10 cy h0 a0 s0, WX0 cy (a0 0) a1 s1]) (rn_S (As := [.int p1, .int (0 : Int32), .int (2 : Int32)]) (rest := []) ⟨hx, hb, hml, hown, hts⟩ (kX10_outside l D cy p1 (0 : Int32) (2 : Int32) _ rfl H.size) (va_cwS 3 hts gX10_day_X10_outside rfl rfl rfl (by decide +kernel) ⟨Nat.le_of_ble_eq_true rfl, Nat.le_of_ble_eq_true rfl⟩) hK hN hP hD [] rfl rfl rfl hl.1 rfl (Nat.le_of_ble_eq_true rfl) dX10_day_3 ⟨Nat.le_refl 0, Nat.le_refl 0⟩) hP hD hS hA [] ⟨rfl, rfl, rfl, rfl⟩ (fun b1 H locs hP hD hS => ?_)
  refine lv_if_eq (tgt := 15) hx hb dX10_day_6 (by decide) (fun c2 => ?_) (fun c2 => ?_)
  · replace h := (if_pos c2).symm.trans h
    refine lv_aload_n hx hb dX10_day_15 rfl (lv_at hl 0 rfl) ?_
    refine va_get (D := D) (ci := 10) (v := .ref (a0 0)) (C := RX10) (T := TX10) (N := 19) hx hb hts hinX10 hown hK hP 0 rfl rfl 0 (by decide) (hts (.fieldLink RX10 10 "KneeBench" "bench" "LKneeBench$Bench;") (List.mem_of_getElem? (i := 1) rfl)) (fun _ h9 => h9) rfl dX10_day_16 ?_
    refine ca_z (w' := [WX10 cy h0 a0 s0, WX0 cy (a0 0) a1 s1]) (rn_V (As := []) (rest := []) ⟨hx, hb, hml, hown, hts⟩ (kX0_canAddDay l D cy (a0 0) a1 s1 _ rfl H.size) (cwV 0 hts gX10_day_X0_canAddDay rfl rfl rfl (by decide +kernel) ⟨Nat.le_of_ble_eq_true rfl, Nat.le_of_ble_eq_true rfl⟩) hK hN hP hD [1] rfl rfl (ci := 0) (q0 := 1) rfl rfl rfl rfl hl.1 rfl (Nat.le_of_ble_eq_true rfl) dX10_day_19 ⟨Nat.le_refl 0, Nat.le_refl 0⟩) hP hD hS hA [1] ⟨rfl, rfl, rfl, rfl⟩ (fun b3 H locs hP hD hS => ?_)
    refine lv_if_ne (tgt := 31) hx hb dX10_day_22 (by decide) (fun c4 => ?_) (fun c4 => ?_)
    · replace h := (if_neg c4).symm.trans h
      refine lv_aload_n hx hb dX10_day_31 rfl (lv_at hl 0 rfl) ?_
      refine va_get (D := D) (ci := 10) (v := .ref (a0 0)) (C := RX10) (T := TX10) (N := 19) hx hb hts hinX10 hown hK hP 0 rfl rfl 0 (by decide) (hts (.fieldLink RX10 10 "KneeBench" "bench" "LKneeBench$Bench;") (List.mem_of_getElem? (i := 1) rfl)) (fun _ h9 => h9) rfl dX10_day_32 ?_
      refine lv_iload_n hx hb dX10_day_35 rfl (lv_at hl 1 rfl) ?_
      obtain ⟨r5, hr5, h⟩ := lt_elim h
      refine ca_v (w' := [WX10 cy h0 a0 s0, WX0 cy (a0 0) a1 r5]) (rn_V (As := [.int p1]) (rest := []) ⟨hx, hb, hml, hown, hts⟩ (kX0_addDay l D cy (a0 0) a1 s1 p1 r5 hr5.symm H.size) (cwV 1 hts gX10_day_X0_addDay rfl rfl rfl (by decide +kernel) ⟨Nat.le_of_ble_eq_true rfl, Nat.le_of_ble_eq_true rfl⟩) hK hN hP hD [1] rfl rfl (ci := 0) (q0 := 1) rfl rfl rfl rfl hl.1 rfl (Nat.le_of_ble_eq_true rfl) dX10_day_36 ⟨Nat.le_refl 0, Nat.le_refl 0⟩) hP hD hS hA [1] ⟨rfl, rfl, rfl, rfl⟩ (fun H locs hP hD hS => ?_)
      refine lv_aload_n hx hb dX10_day_39 rfl (lv_at hl 0 rfl) ?_
      refine lv_aload_n hx hb dX10_day_40 rfl (lv_at hl 0 rfl) ?_
      refine va_get (D := D) (ci := 10) (v := .ref (a0 0)) (C := RX10) (T := TX10) (N := 19) hx hb hts hinX10 hown hK hP 0 rfl rfl 0 (by decide) (hts (.fieldLink RX10 10 "KneeBench" "bench" "LKneeBench$Bench;") (List.mem_of_getElem? (i := 1) rfl)) (fun _ h9 => h9) rfl dX10_day_41 ?_
      refine va_getN (D := D) (ci := 0) (v := .int (gi r5 9)) (C := RX0) (T := TX0) (N := 14) hx hb hts hinX0 hown hK hP 1 rfl rfl 9 (by decide) (NW.fld hN 19 rfl _) (fun _ h9 => h9) rfl dX10_day_44 ?_
      obtain ⟨r6, hr6, h⟩ := lt_elim h
      refine ca_i (w' := [WX10 cy h0 a0 r6.2, WX0 cy (a0 0) a1 r5]) (rn_V (As := [.int (gi r5 9)]) (rest := []) ⟨hx, hb, hml, hown, hts⟩ (kX10_answer l D cy h0 a0 s0 (gi r5 9) r6 hr6.symm H.size) (cwV 1 hts gX10_day_X10_answer rfl rfl rfl (by decide +kernel) ⟨Nat.le_of_ble_eq_true rfl, Nat.le_of_ble_eq_true rfl⟩) hK hN hP hD [0] rfl rfl (ci := 10) (q0 := 0) rfl rfl rfl rfl hl.1 rfl (Nat.le_of_ble_eq_true rfl) dX10_day_47 ⟨Nat.le_refl 0, Nat.le_refl 0⟩) hP hD hS hA [0] ⟨rfl, rfl, rfl, rfl⟩ (fun H locs hP hD hS => ?_)
      exact hret 50 H locs ls (r6.1, r6.2, r5) h hP hD hS dX10_day_50
    · replace h := (if_pos c4).symm.trans h
      refine lv_aload_n hx hb dX10_day_25 rfl (lv_at hl 0 rfl) ?_
      refine lv_iconst (v := 4) hx hb dX10_day_26 (by decide) ?_
      obtain ⟨r7, hr7, h⟩ := lt_elim h
      refine ca_i (w' := [WX10 cy h0 a0 r7.2, WX0 cy (a0 0) a1 s1]) (rn_V (As := [.int (4 : Int32)]) (rest := []) ⟨hx, hb, hml, hown, hts⟩ (kX10_refuse l D cy h0 a0 s0 (4 : Int32) r7 hr7.symm H.size) (cwV 1 hts gX10_day_X10_refuse rfl rfl rfl (by decide +kernel) ⟨Nat.le_of_ble_eq_true rfl, Nat.le_of_ble_eq_true rfl⟩) hK hN hP hD [0] rfl rfl (ci := 10) (q0 := 0) rfl rfl rfl rfl hl.1 rfl (Nat.le_of_ble_eq_true rfl) dX10_day_27 ⟨Nat.le_refl 0, Nat.le_refl 0⟩) hP hD hS hA [0] ⟨rfl, rfl, rfl, rfl⟩ (fun H locs hP hD hS => ?_)
      exact hret 30 H locs ls (r7.1, r7.2, s1) h hP hD hS dX10_day_30
  · replace h := (if_neg c2).symm.trans h
    refine lv_aload_n hx hb dX10_day_9 rfl (lv_at hl 0 rfl) ?_
    refine lv_iconst (v := 1) hx hb dX10_day_10 (by decide) ?_
    obtain ⟨r8, hr8, h⟩ := lt_elim h
    refine ca_i (w' := [WX10 cy h0 a0 r8.2, WX0 cy (a0 0) a1 s1]) (rn_V (As := [.int (1 : Int32)]) (rest := []) ⟨hx, hb, hml, hown, hts⟩ (kX10_refuse l D cy h0 a0 s0 (1 : Int32) r8 hr8.symm H.size) (cwV 1 hts gX10_day_X10_refuse rfl rfl rfl (by decide +kernel) ⟨Nat.le_of_ble_eq_true rfl, Nat.le_of_ble_eq_true rfl⟩) hK hN hP hD [0] rfl rfl (ci := 10) (q0 := 0) rfl rfl rfl rfl hl.1 rfl (Nat.le_of_ble_eq_true rfl) dX10_day_11 ⟨Nat.le_refl 0, Nat.le_refl 0⟩) hP hD hS hA [0] ⟨rfl, rfl, rfl, rfl⟩ (fun H locs hP hD hS => ?_)
    exact hret 14 H locs ls (r8.1, r8.2, s1) h hP hD hS dX10_day_14
