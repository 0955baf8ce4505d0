theorem gd_X0_twingesOn : wsX0_twingesOn.all goodWord = true := by decide +kernel
set_option maxRecDepth 20000 in
theorem ggX0_twingesOn_X0_feltOn : GoodIn wsX0_twingesOn wsX0_feltOn := goodIn_by gd_X0_twingesOn (List.forall_mem_cons.mpr ⟨List.mem_cons_of_mem _ (List.mem_append_left _ (List.mem_of_getElem? (i := 5) rfl)), List.forall_mem_append.mpr ⟨List.forall_mem_cons.mpr ⟨List.mem_cons_of_mem _ (List.mem_append_left _ (List.mem_of_getElem? (i := 6) rfl)), nowords_in⟩, (fun _ h => List.mem_cons_of_mem _ (List.mem_append_right _ (h)))⟩⟩)
set_option maxRecDepth 20000 in
theorem gX0_twingesOn_X0_feltOn : GoodIn wsX0_twingesOn (wsV RX0 109 RX0 yX0_feltOn wsX0_feltOn) := goodIn_app (goodIn_by gd_X0_twingesOn (List.forall_mem_cons.mpr ⟨List.mem_cons_of_mem _ (List.mem_append_left _ (List.mem_of_getElem? (i := 1) rfl)), List.forall_mem_cons.mpr ⟨List.mem_cons_of_mem _ (List.mem_append_left _ (List.mem_of_getElem? (i := 2) rfl)), List.forall_mem_cons.mpr ⟨List.mem_cons_of_mem _ (List.mem_append_left _ (List.mem_of_getElem? (i := 3) rfl)), List.forall_mem_cons.mpr ⟨List.mem_cons_of_mem _ (List.mem_append_left _ (List.mem_of_getElem? (i := 4) rfl)), nowords_in⟩⟩⟩⟩)) ggX0_twingesOn_X0_feltOn
theorem dX0_twingesOn_0 : decode cX0_twingesOn 0 = .ok (.iconst 0, 1) := by decide +kernel
theorem dX0_twingesOn_1 : decode cX0_twingesOn 1 = .ok (.istore_n 2, 1) := by decide +kernel
theorem dX0_twingesOn_2 : decode cX0_twingesOn 2 = .ok (.iconst 0, 1) := by decide +kernel
theorem dX0_twingesOn_3 : decode cX0_twingesOn 3 = .ok (.istore_n 3, 1) := by decide +kernel
theorem dX0_twingesOn_4 : decode cX0_twingesOn 4 = .ok (.iload_n 3, 1) := by decide +kernel
theorem dX0_twingesOn_5 : decode cX0_twingesOn 5 = .ok (.aload_n 0, 1) := by decide +kernel
theorem dX0_twingesOn_6 : decode cX0_twingesOn 6 = .ok (.getfield 37, 3) := by decide +kernel
theorem dX0_twingesOn_9 : decode cX0_twingesOn 9 = .ok (.if_icmp .ge 18, 3) := by decide +kernel
theorem dX0_twingesOn_12 : decode cX0_twingesOn 12 = .ok (.iload_n 2, 1) := by decide +kernel
theorem dX0_twingesOn_13 : decode cX0_twingesOn 13 = .ok (.aload_n 0, 1) := by decide +kernel
theorem dX0_twingesOn_14 : decode cX0_twingesOn 14 = .ok (.iload_n 3, 1) := by decide +kernel
theorem dX0_twingesOn_15 : decode cX0_twingesOn 15 = .ok (.iload_n 1, 1) := by decide +kernel
theorem dX0_twingesOn_16 : decode cX0_twingesOn 16 = .ok (.invokevirtual 109, 3) := by decide +kernel
theorem dX0_twingesOn_19 : decode cX0_twingesOn 19 = .ok (.iadd, 1) := by decide +kernel
theorem dX0_twingesOn_20 : decode cX0_twingesOn 20 = .ok (.istore_n 2, 1) := by decide +kernel
theorem dX0_twingesOn_21 : decode cX0_twingesOn 21 = .ok (.iinc 3 1, 3) := by decide +kernel
theorem dX0_twingesOn_24 : decode cX0_twingesOn 24 = .ok (.goto (-20), 3) := by decide +kernel
theorem dX0_twingesOn_27 : decode cX0_twingesOn 27 = .ok (.iload_n 2, 1) := by decide +kernel
theorem dX0_twingesOn_28 : decode cX0_twingesOn 28 = .ok (.ireturn, 1) := by decide +kernel
abbrev rmX0_twingesOn : Room := { frames := 1, cells := 0, slots := 0, locals := 22 }
set_option maxHeartbeats 4000000 in
set_option maxRecDepth 100000 in
theorem kX0_twingesOn (l : Launch) (D : va_G) (cy : Nat → ClassId) (h0 : Nat) (a0 : Nat → Nat) (s0 : Rc) (p1 : Int32) (res : Int32) (h : fX0_twingesOn p1 s0 = some res) : CI l D cy yX0_twingesOn wsX0_twingesOn rmX0_twingesOn [.ref h0, .int p1] (flat [WX0 cy h0 a0 s0]) (flat [WX0 cy h0 a0 s0]) res := by
  refine CI.of (cc := cX0_twingesOn) (maxL := 4) (by decide) rfl (Nat.le_of_ble_eq_true rfl) ?_
  intro p e s m args below meth c A QQ ls E hr
  obtain ⟨hx, hb, hml, hown, hts, hK, hN, hP, hD, hA, hl⟩ := E
  have hret : ∀ (pc : Nat) (H : Heap) (locs : List Loc) (ls : Array Slot) (u : Int32), u = res → va_P D vwCl (flat [WX0 cy h0 a0 s0]) H → va_D A (flat [WX0 cy h0 a0 s0]) → va_S A s.heap H locs → decode cX0_twingesOn pc = .ok (.ireturn, 1) → W p l e rmX0_twingesOn s m args below meth c H locs 0 0 QQ (F0 m pc ls [.int u]) := by
    intro pc H locs ls u hu hP hD hS hd; subst hu; exact hr pc H locs ls _ rfl hP hD hS hd
  clear hr
  have hl : lv_has ls 4 [(0, .ref h0), (1, .int p1)] := hl
  have hinX0 : ∀ w ∈ wsX00, w ∈ wsX0_twingesOn := fun _ h => List.mem_cons_of_mem _ (List.mem_append_right _ h)
  unfold fX0_twingesOn at h
  suffices key : ∀ (H : Heap) (locs : List Loc), va_P D vwCl (flat [WX0 cy h0 a0 s0]) H → va_S A s.heap H locs → W p l e rmX0_twingesOn s m args below meth c H locs 0 0 QQ (F0 m 0 ls []) from key _ _ hP va_S.rf
  clear hP
  intro H locs hP hS
  refine lv_iconst (v := 0) hx hb dX0_twingesOn_0 (by decide) ?_
  refine lv_istore_n (lv' := [(2, .int (0 : Int32)), (0, .ref h0), (1, .int p1)]) hx hb dX0_twingesOn_1 rfl hl (by decide) rfl (fun ls hl => ?_)
  refine lv_iconst (v := 0) hx hb dX0_twingesOn_2 (by decide) ?_
  refine lv_istore_n (lv' := [(3, .int (0 : Int32)), (2, .int (0 : Int32)), (0, .ref h0), (1, .int p1)]) hx hb dX0_twingesOn_3 rfl hl (by decide) rfl (fun ls hl => ?_)
  have L4 : ∀ (n : Nat) (q4 : Int32 × Int32) (o : Int32), loopO (fX0_twingesOn_L4 p1 s0) n q4 = some o → ∀ (H : Heap) (locs : List Loc) (ls : Array Slot), lv_has ls 4 [(0, .ref h0), (1, .int p1), (2, .int q4.1), (3, .int q4.2)] → va_P D vwCl (flat [WX0 cy h0 a0 s0]) H → va_D A (flat [WX0 cy h0 a0 s0]) → va_S A s.heap H locs → ∀ (kk27 : ∀ (H : Heap) (locs : List Loc) (ls : Array Slot), lv_has ls 4 [(2, .int o)] → va_P D vwCl (flat [WX0 cy h0 a0 s0]) H → va_D A (flat [WX0 cy h0 a0 s0]) → va_S A s.heap H locs → W p l e rmX0_twingesOn s m args below meth c H locs 0 0 QQ (F0 m 27 ls [])), W p l e rmX0_twingesOn s m args below meth c H locs 0 0 QQ (F0 m 4 ls []) := by
    intro n
    induction n with
    | zero => intro q4 o h; exact absurd h (by rw [loopO_zero]; intro z; cases z)
    | succ n ih =>
      intro q4 o h H locs ls hl hP hD hS kk27
      obtain ⟨w, h, hgo, hst⟩ := loopO_elim h
      unfold fX0_twingesOn_L4 at h
      refine lv_iload_n hx hb dX0_twingesOn_4 rfl (lv_at hl 3 rfl) ?_
      refine lv_aload_n hx hb dX0_twingesOn_5 rfl (lv_at hl 0 rfl) ?_
      refine va_get (D := D) (ci := 0) (v := .int (gi s0 8)) (C := RX0) (T := TX0) (N := 14) hx hb hts hinX0 hown hK hP 0 rfl rfl 8 (by decide) (hts (.fieldLink RX0 37 "KneeBench$Bench" "farmers" "I") (List.mem_of_getElem? (i := 1) rfl)) (fun _ h9 => h9) rfl dX0_twingesOn_6 ?_
      refine lv_icmp_ge (tgt := 27) hx hb dX0_twingesOn_9 (by decide) (fun c1 => ?_) (fun c1 => ?_)
      · replace h := (if_pos c1).symm.trans h
        have eo := hst _ (Option.some.inj h).symm
        subst eo
        exact kk27 H locs ls (lv_sub hl [2] rfl) hP hD hS
      · replace h := (if_neg c1).symm.trans h
        refine lv_iload_n hx hb dX0_twingesOn_12 rfl (lv_at hl 2 rfl) ?_
        refine lv_aload_n hx hb dX0_twingesOn_13 rfl (lv_at hl 0 rfl) ?_
        refine lv_iload_n hx hb dX0_twingesOn_14 rfl (lv_at hl 3 rfl) ?_
        refine lv_iload_n hx hb dX0_twingesOn_15 rfl (lv_at hl 1 rfl) ?_
        obtain ⟨r2, hr2, h⟩ := bd_elim h
        refine ca_i (w' := [WX0 cy h0 a0 s0]) (rn_V (As := [.int q4.2, .int p1]) (rest := [.int q4.1]) ⟨hx, hb, hml, hown, hts⟩ (kX0_feltOn l D cy h0 a0 s0 q4.2 p1 r2 hr2 H.size) (cwV 2 hts gX0_twingesOn_X0_feltOn rfl rfl rfl (by decide +kernel) ⟨Nat.le_of_ble_eq_true rfl, Nat.le_of_ble_eq_true rfl⟩) hK hN hP hD [0] rfl rfl (ci := 0) (q0 := 0) rfl rfl rfl rfl hl.1 rfl (Nat.le_of_ble_eq_true rfl) dX0_twingesOn_16 ⟨Nat.le_refl 0, Nat.le_refl 0⟩) hP hD hS hA [0] ⟨rfl, rfl, rfl, rfl⟩ (fun H locs hP hD hS => ?_)
        refine lv_iadd hx hb dX0_twingesOn_19 ?_
        refine lv_topi (fun x3 ex3 => ?_)
        replace h := lt_use h x3 ex3
        refine lv_istore_n (lv' := [(2, .int x3), (0, .ref h0), (1, .int p1), (3, .int q4.2)]) hx hb dX0_twingesOn_20 rfl hl (by decide) rfl (fun ls hl => ?_)
        refine lv_iinc (v := (q4.2 + (1 : Int32))) (lv' := [(3, .int (q4.2 + (1 : Int32))), (2, .int x3), (0, .ref h0), (1, .int p1)]) hx hb dX0_twingesOn_21 hl (k := 3) rfl rfl (by decide) rfl (fun ls hl => ?_)
        refine lv_goto (tgt := 4) hx hb dX0_twingesOn_24 (by decide) ?_
        exact ih _ o (hgo _ (Option.some.inj h).symm) H locs ls (lv_sub hl [2, 3, 1, 0] rfl) hP hD hS kk27
  obtain ⟨o4, ho4, h⟩ := bd_elim h
  obtain ⟨n4, hn4⟩ := loopF_some ho4
  refine L4 n4 _ o4 hn4 H locs ls (lv_sub hl [2, 3, 1, 0] rfl) hP hD hS (fun H locs ls hl hP hD hS => ?_)
  refine lv_iload_n hx hb dX0_twingesOn_27 rfl (lv_at hl 0 rfl) ?_
  exact hret 28 H locs ls o4 (Option.some.inj h) hP hD hS dX0_twingesOn_28
theorem gd_X0_twingesShared : wsX0_twingesShared.all goodWord = true := by decide +kernel
set_option maxRecDepth 20000 in
theorem ggX0_twingesShared_J13_bitCount_95d88 : GoodIn wsX0_twingesShared wsJ13_bitCount_95d88 := goodIn_by gd_X0_twingesShared (List.forall_mem_cons.mpr ⟨List.mem_cons_of_mem _ (List.mem_append_left _ (List.mem_of_getElem? (i := 4) rfl)), List.forall_mem_cons.mpr ⟨List.mem_cons_of_mem _ (List.mem_append_left _ (List.mem_of_getElem? (i := 5) rfl)), List.forall_mem_cons.mpr ⟨List.mem_cons_of_mem _ (List.mem_append_left _ (List.mem_of_getElem? (i := 6) rfl)), List.forall_mem_cons.mpr ⟨List.mem_cons_of_mem _ (List.mem_append_left _ (List.mem_of_getElem? (i := 7) rfl)), nowords_in⟩⟩⟩⟩)
set_option maxRecDepth 20000 in
theorem gX0_twingesShared_J13_bitCount_95d88 : GoodIn wsX0_twingesShared (va_wsS RX0 103 yJ13_bitCount_95d88 wsJ13_bitCount_95d88) := goodIn_app (goodIn_by gd_X0_twingesShared (List.forall_mem_cons.mpr ⟨List.mem_cons_of_mem _ (List.mem_append_left _ (List.mem_of_getElem? (i := 1) rfl)), List.forall_mem_cons.mpr ⟨List.mem_cons_of_mem _ (List.mem_append_left _ (List.mem_of_getElem? (i := 2) rfl)), List.forall_mem_cons.mpr ⟨List.mem_cons_of_mem _ (List.mem_append_left _ (List.mem_of_getElem? (i := 3) rfl)), nowords_in⟩⟩⟩)) ggX0_twingesShared_J13_bitCount_95d88
theorem dX0_twingesShared_0 : decode cX0_twingesShared 0 = .ok (.aload_n 0, 1) := by decide +kernel
theorem dX0_twingesShared_1 : decode cX0_twingesShared 1 = .ok (.getfield 31, 3) := by decide +kernel
theorem dX0_twingesShared_4 : decode cX0_twingesShared 4 = .ok (.iload_n 1, 1) := by decide +kernel
theorem dX0_twingesShared_5 : decode cX0_twingesShared 5 = .ok (.laload, 1) := by decide +kernel
theorem dX0_twingesShared_6 : decode cX0_twingesShared 6 = .ok (.aload_n 0, 1) := by decide +kernel
theorem dX0_twingesShared_7 : decode cX0_twingesShared 7 = .ok (.getfield 31, 3) := by decide +kernel
theorem dX0_twingesShared_10 : decode cX0_twingesShared 10 = .ok (.iload_n 2, 1) := by decide +kernel
theorem dX0_twingesShared_11 : decode cX0_twingesShared 11 = .ok (.laload, 1) := by decide +kernel
theorem dX0_twingesShared_12 : decode cX0_twingesShared 12 = .ok (.land, 1) := by decide +kernel
theorem dX0_twingesShared_13 : decode cX0_twingesShared 13 = .ok (.invokestatic 103, 3) := by decide +kernel
theorem dX0_twingesShared_16 : decode cX0_twingesShared 16 = .ok (.ireturn, 1) := by decide +kernel
abbrev rmX0_twingesShared : Room := { frames := 1, cells := 0, slots := 0, locals := 21 }
set_option maxHeartbeats 4000000 in
set_option maxRecDepth 100000 in
theorem kX0_twingesShared (l : Launch) (D : va_G) (cy : Nat → ClassId) (h0 : Nat) (a0 : Nat → Nat) (s0 : Rc) (p1 : Int32) (p2 : Int32) (res : Int32) (h : fX0_twingesShared p1 p2 s0 = some res) : CI l D cy yX0_twingesShared wsX0_twingesShared rmX0_twingesShared [.ref h0, .int p1, .int p2] (flat [WX0 cy h0 a0 s0]) (flat [WX0 cy h0 a0 s0]) res := by
  refine CI.of (cc := cX0_twingesShared) (maxL := 3) (by decide) rfl (Nat.le_of_ble_eq_true rfl) ?_
  intro p e s m args below meth c A QQ ls E hr
  obtain ⟨hx, hb, hml, hown, hts, hK, hN, hP, hD, hA, hl⟩ := E
  have hret : ∀ (pc : Nat) (H : Heap) (locs : List Loc) (ls : Array Slot) (u : Int32), u = res → va_P D vwCl (flat [WX0 cy h0 a0 s0]) H → va_D A (flat [WX0 cy h0 a0 s0]) → va_S A s.heap H locs → decode cX0_twingesShared pc = .ok (.ireturn, 1) → W p l e rmX0_twingesShared s m args below meth c H locs 0 0 QQ (F0 m pc ls [.int u]) := by
    intro pc H locs ls u hu hP hD hS hd; subst hu; exact hr pc H locs ls _ rfl hP hD hS hd
  clear hr
  have hl : lv_has ls 3 [(0, .ref h0), (1, .int p1), (2, .int p2)] := hl
  have hinX0 : ∀ w ∈ wsX00, w ∈ wsX0_twingesShared := fun _ h => List.mem_cons_of_mem _ (List.mem_append_right _ h)
  unfold fX0_twingesShared at h
  suffices key : ∀ (H : Heap) (locs : List Loc), va_P D vwCl (flat [WX0 cy h0 a0 s0]) H → va_S A s.heap H locs → W p l e rmX0_twingesShared s m args below meth c H locs 0 0 QQ (F0 m 0 ls []) from key _ _ hP va_S.rf
  clear hP
  intro H locs hP hS
  refine lv_aload_n hx hb dX0_twingesShared_0 rfl (lv_at hl 0 rfl) ?_
  refine va_get (D := D) (ci := 0) (v := .ref (a0 6)) (C := RX0) (T := TX0) (N := 14) hx hb hts hinX0 hown hK hP 0 rfl rfl 6 (by decide) (hts (.fieldLink RX0 31 "KneeBench$Bench" "twinges" "[J") (List.mem_of_getElem? (i := 1) rfl)) (fun _ h9 => h9) rfl dX0_twingesShared_1 ?_
  refine lv_iload_n hx hb dX0_twingesShared_4 rfl (lv_at hl 1 rfl) ?_
  obtain ⟨g1, h⟩ := gd_elim h
  refine va_lald hx hb hK hP 7 2 rfl rfl (inb_in g1) dX0_twingesShared_5 ?_
  refine lv_aload_n hx hb dX0_twingesShared_6 rfl (lv_at hl 0 rfl) ?_
  refine va_get (D := D) (ci := 0) (v := .ref (a0 6)) (C := RX0) (T := TX0) (N := 14) hx hb hts hinX0 hown hK hP 0 rfl rfl 6 (by decide) (hts (.fieldLink RX0 31 "KneeBench$Bench" "twinges" "[J") (List.mem_of_getElem? (i := 1) rfl)) (fun _ h9 => h9) rfl dX0_twingesShared_7 ?_
  refine lv_iload_n hx hb dX0_twingesShared_10 rfl (lv_at hl 2 rfl) ?_
  obtain ⟨g2, h⟩ := gd_elim h
  refine va_lald hx hb hK hP 7 2 rfl rfl (inb_in g2) dX0_twingesShared_11 ?_
  refine lv_land hx hb dX0_twingesShared_12 ?_
  refine ca_i (w' := [WX0 cy h0 a0 s0]) (rn_S (As := [.long ((gb s0 6 p1.toNatClampNeg) &&& (gb s0 6 p2.toNatClampNeg))]) (rest := []) ⟨hx, hb, hml, hown, hts⟩ (kJ13_bitCount_95d88 l D cy ((gb s0 6 p1.toNatClampNeg) &&& (gb s0 6 p2.toNatClampNeg)) _ rfl H.size) (va_cwS 1 hts gX0_twingesShared_J13_bitCount_95d88 rfl rfl rfl (by decide +kernel) ⟨Nat.le_of_ble_eq_true rfl, Nat.le_of_ble_eq_true rfl⟩) hK hN hP hD [] rfl rfl rfl hl.1 rfl (Nat.le_of_ble_eq_true rfl) dX0_twingesShared_13 ⟨Nat.le_refl 0, Nat.le_refl 0⟩) hP hD hS hA [] ⟨rfl, rfl, rfl, rfl⟩ (fun H locs hP hD hS => ?_)
  exact hret 16 H locs ls (fJ13_bitCount_95d88 ((gb s0 6 p1.toNatClampNeg) &&& (gb s0 6 p2.toNatClampNeg))) (Option.some.inj h) hP hD hS dX0_twingesShared_16
theorem gd_X0_verdictOf : wsX0_verdictOf.all goodWord = true := by decide +kernel
set_option maxRecDepth 20000 in
theorem ggX0_verdictOf_X0_tellersOf : GoodIn wsX0_verdictOf wsX0_tellersOf := goodIn_by gd_X0_verdictOf (List.forall_mem_cons.mpr ⟨List.mem_cons_of_mem _ (List.mem_append_left _ (List.mem_append_left _ (List.mem_of_getElem? (i := 5) rfl))), List.forall_mem_append.mpr ⟨List.forall_mem_cons.mpr ⟨List.mem_cons_of_mem _ (List.mem_append_left _ (List.mem_append_left _ (List.mem_of_getElem? (i := 6) rfl))), List.forall_mem_cons.mpr ⟨List.mem_cons_of_mem _ (List.mem_append_left _ (List.mem_append_left _ (List.mem_of_getElem? (i := 7) rfl))), List.forall_mem_cons.mpr ⟨List.mem_cons_of_mem _ (List.mem_append_left _ (List.mem_append_left _ (List.mem_of_getElem? (i := 8) rfl))), List.forall_mem_cons.mpr ⟨List.mem_cons_of_mem _ (List.mem_append_left _ (List.mem_append_left _ (List.mem_of_getElem? (i := 9) rfl))), List.forall_mem_cons.mpr ⟨List.mem_cons_of_mem _ (List.mem_append_left _ (List.mem_append_left _ (List.mem_of_getElem? (i := 4) rfl))), List.forall_mem_cons.mpr ⟨List.mem_cons_of_mem _ (List.mem_append_left _ (List.mem_append_left _ (List.mem_of_getElem? (i := 10) rfl))), List.forall_mem_cons.mpr ⟨List.mem_cons_of_mem _ (List.mem_append_left _ (List.mem_append_left _ (List.mem_of_getElem? (i := 11) rfl))), List.forall_mem_cons.mpr ⟨List.mem_cons_of_mem _ (List.mem_append_left _ (List.mem_append_left _ (List.mem_of_getElem? (i := 12) rfl))), List.forall_mem_cons.mpr ⟨List.mem_cons_of_mem _ (List.mem_append_left _ (List.mem_append_left _ (List.mem_of_getElem? (i := 13) rfl))), nowords_in⟩⟩⟩⟩⟩⟩⟩⟩⟩, (fun _ h => List.mem_cons_of_mem _ (List.mem_append_right _ (h)))⟩⟩)
set_option maxRecDepth 20000 in
theorem gX0_verdictOf_X0_tellersOf : GoodIn wsX0_verdictOf (wsV RX0 143 RX0 yX0_tellersOf wsX0_tellersOf) := goodIn_app (goodIn_by gd_X0_verdictOf (List.forall_mem_cons.mpr ⟨List.mem_cons_of_mem _ (List.mem_append_left _ (List.mem_append_left _ (List.mem_of_getElem? (i := 1) rfl))), List.forall_mem_cons.mpr ⟨List.mem_cons_of_mem _ (List.mem_append_left _ (List.mem_append_left _ (List.mem_of_getElem? (i := 2) rfl))), List.forall_mem_cons.mpr ⟨List.mem_cons_of_mem _ (List.mem_append_left _ (List.mem_append_left _ (List.mem_of_getElem? (i := 3) rfl))), List.forall_mem_cons.mpr ⟨List.mem_cons_of_mem _ (List.mem_append_left _ (List.mem_append_left _ (List.mem_of_getElem? (i := 4) rfl))), nowords_in⟩⟩⟩⟩)) ggX0_verdictOf_X0_tellersOf
set_option maxRecDepth 20000 in
theorem ggX0_verdictOf_X0_believersOf : GoodIn wsX0_verdictOf wsX0_believersOf := goodIn_by gd_X0_verdictOf (List.forall_mem_cons.mpr ⟨List.mem_cons_of_mem _ (List.mem_append_left _ (List.mem_append_left _ (List.mem_of_getElem? (i := 17) rfl))), List.forall_mem_append.mpr ⟨List.forall_mem_cons.mpr ⟨List.mem_cons_of_mem _ (List.mem_append_left _ (List.mem_append_left _ (List.mem_of_getElem? (i := 6) rfl))), List.forall_mem_cons.mpr ⟨List.mem_cons_of_mem _ (List.mem_append_left _ (List.mem_append_left _ (List.mem_of_getElem? (i := 18) rfl))), List.forall_mem_cons.mpr ⟨List.mem_cons_of_mem _ (List.mem_append_left _ (List.mem_append_left _ (List.mem_of_getElem? (i := 19) rfl))), List.forall_mem_cons.mpr ⟨List.mem_cons_of_mem _ (List.mem_append_left _ (List.mem_append_left _ (List.mem_of_getElem? (i := 20) rfl))), List.forall_mem_cons.mpr ⟨List.mem_cons_of_mem _ (List.mem_append_left _ (List.mem_append_left _ (List.mem_of_getElem? (i := 4) rfl))), List.forall_mem_cons.mpr ⟨List.mem_cons_of_mem _ (List.mem_append_left _ (List.mem_append_left _ (List.mem_of_getElem? (i := 21) rfl))), List.forall_mem_cons.mpr ⟨List.mem_cons_of_mem _ (List.mem_append_left _ (List.mem_append_left _ (List.mem_of_getElem? (i := 11) rfl))), List.forall_mem_cons.mpr ⟨List.mem_cons_of_mem _ (List.mem_append_left _ (List.mem_append_left _ (List.mem_of_getElem? (i := 7) rfl))), List.forall_mem_cons.mpr ⟨List.mem_cons_of_mem _ (List.mem_append_left _ (List.mem_append_left _ (List.mem_of_getElem? (i := 8) rfl))), List.forall_mem_cons.mpr ⟨List.mem_cons_of_mem _ (List.mem_append_left _ (List.mem_append_left _ (List.mem_of_getElem? (i := 9) rfl))), List.forall_mem_cons.mpr ⟨List.mem_cons_of_mem _ (List.mem_append_left _ (List.mem_append_left _ (List.mem_of_getElem? (i := 10) rfl))), List.forall_mem_cons.mpr ⟨List.mem_cons_of_mem _ (List.mem_append_left _ (List.mem_append_left _ (List.mem_of_getElem? (i := 12) rfl))), List.forall_mem_cons.mpr ⟨List.mem_cons_of_mem _ (List.mem_append_left _ (List.mem_append_left _ (List.mem_of_getElem? (i := 13) rfl))), List.forall_mem_cons.mpr ⟨List.mem_cons_of_mem _ (List.mem_append_left _ (List.mem_append_left _ (List.mem_of_getElem? (i := 22) rfl))), List.forall_mem_cons.mpr ⟨List.mem_cons_of_mem _ (List.mem_append_left _ (List.mem_append_left _ (List.mem_of_getElem? (i := 23) rfl))), List.forall_mem_cons.mpr ⟨List.mem_cons_of_mem _ (List.mem_append_left _ (List.mem_append_right _ (List.mem_of_getElem? (i := 0) rfl))), List.forall_mem_cons.mpr ⟨List.mem_cons_of_mem _ (List.mem_append_left _ (List.mem_append_right _ (List.mem_of_getElem? (i := 1) rfl))), List.forall_mem_cons.mpr ⟨List.mem_cons_of_mem _ (List.mem_append_left _ (List.mem_append_right _ (List.mem_of_getElem? (i := 2) rfl))), nowords_in⟩⟩⟩⟩⟩⟩⟩⟩⟩⟩⟩⟩⟩⟩⟩⟩⟩⟩, (fun _ h => List.mem_cons_of_mem _ (List.mem_append_right _ (h)))⟩⟩)
set_option maxRecDepth 20000 in
theorem gX0_verdictOf_X0_believersOf : GoodIn wsX0_verdictOf (wsV RX0 146 RX0 yX0_believersOf wsX0_believersOf) := goodIn_app (goodIn_by gd_X0_verdictOf (List.forall_mem_cons.mpr ⟨List.mem_cons_of_mem _ (List.mem_append_left _ (List.mem_append_left _ (List.mem_of_getElem? (i := 14) rfl))), List.forall_mem_cons.mpr ⟨List.mem_cons_of_mem _ (List.mem_append_left _ (List.mem_append_left _ (List.mem_of_getElem? (i := 15) rfl))), List.forall_mem_cons.mpr ⟨List.mem_cons_of_mem _ (List.mem_append_left _ (List.mem_append_left _ (List.mem_of_getElem? (i := 16) rfl))), List.forall_mem_cons.mpr ⟨List.mem_cons_of_mem _ (List.mem_append_left _ (List.mem_append_left _ (List.mem_of_getElem? (i := 4) rfl))), nowords_in⟩⟩⟩⟩)) ggX0_verdictOf_X0_believersOf
set_option maxRecDepth 20000 in
theorem ggX0_verdictOf_X0_verdict : GoodIn wsX0_verdictOf wsX0_verdict := goodIn_by gd_X0_verdictOf (List.forall_mem_cons.mpr ⟨List.mem_cons_of_mem _ (List.mem_append_left _ (List.mem_append_right _ (List.mem_of_getElem? (i := 6) rfl))), List.forall_mem_append.mpr ⟨List.forall_mem_cons.mpr ⟨List.mem_cons_of_mem _ (List.mem_append_left _ (List.mem_append_right _ (List.mem_of_getElem? (i := 7) rfl))), List.forall_mem_cons.mpr ⟨List.mem_cons_of_mem _ (List.mem_append_left _ (List.mem_append_right _ (List.mem_of_getElem? (i := 8) rfl))), List.forall_mem_cons.mpr ⟨List.mem_cons_of_mem _ (List.mem_append_left _ (List.mem_append_right _ (List.mem_of_getElem? (i := 9) rfl))), List.forall_mem_cons.mpr ⟨List.mem_cons_of_mem _ (List.mem_append_left _ (List.mem_append_right _ (List.mem_of_getElem? (i := 10) rfl))), List.forall_mem_cons.mpr ⟨List.mem_cons_of_mem _ (List.mem_append_left _ (List.mem_append_right _ (List.mem_of_getElem? (i := 11) rfl))), List.forall_mem_cons.mpr ⟨List.mem_cons_of_mem _ (List.mem_append_left _ (List.mem_append_right _ (List.mem_of_getElem? (i := 12) rfl))), List.forall_mem_cons.mpr ⟨List.mem_cons_of_mem _ (List.mem_append_left _ (List.mem_append_right _ (List.mem_of_getElem? (i := 13) rfl))), List.forall_mem_cons.mpr ⟨List.mem_cons_of_mem _ (List.mem_append_left _ (List.mem_append_right _ (List.mem_of_getElem? (i := 14) rfl))), List.forall_mem_cons.mpr ⟨List.mem_cons_of_mem _ (List.mem_append_left _ (List.mem_append_right _ (List.mem_of_getElem? (i := 15) rfl))), List.forall_mem_cons.mpr ⟨List.mem_cons_of_mem _ (List.mem_append_left _ (List.mem_append_right _ (List.mem_of_getElem? (i := 16) rfl))), List.forall_mem_cons.mpr ⟨List.mem_cons_of_mem _ (List.mem_append_left _ (List.mem_append_right _ (List.mem_of_getElem? (i := 17) rfl))), List.forall_mem_cons.mpr ⟨List.mem_cons_of_mem _ (List.mem_append_left _ (List.mem_append_right _ (List.mem_of_getElem? (i := 18) rfl))), List.forall_mem_cons.mpr ⟨List.mem_cons_of_mem _ (List.mem_append_left _ (List.mem_append_right _ (List.mem_of_getElem? (i := 19) rfl))), List.forall_mem_cons.mpr ⟨List.mem_cons_of_mem _ (List.mem_append_left _ (List.mem_append_left _ (List.mem_of_getElem? (i := 4) rfl))), List.forall_mem_cons.mpr ⟨List.mem_cons_of_mem _ (List.mem_append_left _ (List.mem_append_right _ (List.mem_of_getElem? (i := 20) rfl))), List.forall_mem_cons.mpr ⟨List.mem_cons_of_mem _ (List.mem_append_left _ (List.mem_append_left _ (List.mem_of_getElem? (i := 6) rfl))), List.forall_mem_cons.mpr ⟨List.mem_cons_of_mem _ (List.mem_append_left _ (List.mem_append_right _ (List.mem_of_getElem? (i := 21) rfl))), nowords_in⟩⟩⟩⟩⟩⟩⟩⟩⟩⟩⟩⟩⟩⟩⟩⟩⟩, (fun _ h => List.mem_cons_of_mem _ (List.mem_append_right _ (h)))⟩⟩)
set_option maxRecDepth 20000 in
theorem gX0_verdictOf_X0_verdict : GoodIn wsX0_verdictOf (wsV RX0 149 RX0 yX0_verdict wsX0_verdict) := goodIn_app (goodIn_by gd_X0_verdictOf (List.forall_mem_cons.mpr ⟨List.mem_cons_of_mem _ (List.mem_append_left _ (List.mem_append_right _ (List.mem_of_getElem? (i := 3) rfl))), List.forall_mem_cons.mpr ⟨List.mem_cons_of_mem _ (List.mem_append_left _ (List.mem_append_right _ (List.mem_of_getElem? (i := 4) rfl))), List.forall_mem_cons.mpr ⟨List.mem_cons_of_mem _ (List.mem_append_left _ (List.mem_append_right _ (List.mem_of_getElem? (i := 5) rfl))), List.forall_mem_cons.mpr ⟨List.mem_cons_of_mem _ (List.mem_append_left _ (List.mem_append_left _ (List.mem_of_getElem? (i := 4) rfl))), nowords_in⟩⟩⟩⟩)) ggX0_verdictOf_X0_verdict
theorem dX0_verdictOf_0 : decode cX0_verdictOf 0 = .ok (.aload_n 0, 1) := by decide +kernel
theorem dX0_verdictOf_1 : decode cX0_verdictOf 1 = .ok (.aload_n 0, 1) := by decide +kernel
theorem dX0_verdictOf_2 : decode cX0_verdictOf 2 = .ok (.getfield 51, 3) := by decide +kernel
theorem dX0_verdictOf_5 : decode cX0_verdictOf 5 = .ok (.aload_n 0, 1) := by decide +kernel
theorem dX0_verdictOf_6 : decode cX0_verdictOf 6 = .ok (.iload_n 1, 1) := by decide +kernel
theorem dX0_verdictOf_7 : decode cX0_verdictOf 7 = .ok (.invokevirtual 143, 3) := by decide +kernel
theorem dX0_verdictOf_10 : decode cX0_verdictOf 10 = .ok (.aload_n 0, 1) := by decide +kernel
theorem dX0_verdictOf_11 : decode cX0_verdictOf 11 = .ok (.iload_n 1, 1) := by decide +kernel
theorem dX0_verdictOf_12 : decode cX0_verdictOf 12 = .ok (.invokevirtual 146, 3) := by decide +kernel
theorem dX0_verdictOf_15 : decode cX0_verdictOf 15 = .ok (.invokevirtual 149, 3) := by decide +kernel
theorem dX0_verdictOf_18 : decode cX0_verdictOf 18 = .ok (.ireturn, 1) := by decide +kernel
abbrev rmX0_verdictOf : Room := { frames := 3, cells := 0, slots := 0, locals := 68 }
set_option maxHeartbeats 4000000 in
set_option maxRecDepth 100000 in
theorem kX0_verdictOf (l : Launch) (D : va_G) (cy : Nat → ClassId) (h0 : Nat) (a0 : Nat → Nat) (s0 : Rc) (p1 : Int32) (res : Int32) (h : fX0_verdictOf p1 s0 = some res) : CI l D cy yX0_verdictOf wsX0_verdictOf rmX0_verdictOf [.ref h0, .int p1] (flat [WX0 cy h0 a0 s0]) (flat [WX0 cy h0 a0 s0]) res := by
  refine CI.of (cc := cX0_verdictOf) (maxL := 2) (by decide) rfl (Nat.le_of_ble_eq_true rfl) ?_
  intro p e s m args below meth c A QQ ls E hr
  obtain ⟨hx, hb, hml, hown, hts, hK, hN, hP, hD, hA, hl⟩ := E
  have hret : ∀ (pc : Nat) (H : Heap) (locs : List Loc) (ls : Array Slot) (u : Int32), u = res → va_P D vwCl (flat [WX0 cy h0 a0 s0]) H → va_D A (flat [WX0 cy h0 a0 s0]) → va_S A s.heap H locs → decode cX0_verdictOf pc = .ok (.ireturn, 1) → W p l e rmX0_verdictOf s m args below meth c H locs 0 0 QQ (F0 m pc ls [.int u]) := by
    intro pc H locs ls u hu hP hD hS hd; subst hu; exact hr pc H locs ls _ rfl hP hD hS hd
  clear hr
  have hl : lv_has ls 2 [(0, .ref h0), (1, .int p1)] := hl
  have hinX0 : ∀ w ∈ wsX00, w ∈ wsX0_verdictOf := fun _ h => List.mem_cons_of_mem _ (List.mem_append_right _ h)
  unfold fX0_verdictOf at h
  suffices key : ∀ (H : Heap) (locs : List Loc), va_P D vwCl (flat [WX0 cy h0 a0 s0]) H → va_S A s.heap H locs → W p l e rmX0_verdictOf s m args below meth c H locs 0 0 QQ (F0 m 0 ls []) from key _ _ hP va_S.rf
  clear hP
  intro H locs hP hS
  refine lv_aload_n hx hb dX0_verdictOf_0 rfl (lv_at hl 0 rfl) ?_
  refine lv_aload_n hx hb dX0_verdictOf_1 rfl (lv_at hl 0 rfl) ?_
  refine va_get (D := D) (ci := 0) (v := .int (gi s0 12)) (C := RX0) (T := TX0) (N := 14) hx hb hts hinX0 hown hK hP 0 rfl rfl 12 (by decide) (hts (.fieldLink RX0 51 "KneeBench$Bench" "vote" "I") (List.mem_of_getElem? (i := 1) rfl)) (fun _ h9 => h9) rfl dX0_verdictOf_2 ?_
  refine lv_aload_n hx hb dX0_verdictOf_5 rfl (lv_at hl 0 rfl) ?_
  refine lv_iload_n hx hb dX0_verdictOf_6 rfl (lv_at hl 1 rfl) ?_
  obtain ⟨r1, hr1, h⟩ := bd_elim h
  refine ca_i (w' := [WX0 cy h0 a0 s0]) (rn_V (As := [.int p1]) (rest := [.int (gi s0 12), .ref h0]) ⟨hx, hb, hml, hown, hts⟩ (kX0_tellersOf l D cy h0 a0 s0 p1 r1 hr1 H.size) (cwV 1 hts gX0_verdictOf_X0_tellersOf rfl rfl rfl (by decide +kernel) ⟨Nat.le_of_ble_eq_true rfl, Nat.le_of_ble_eq_true rfl⟩) hK hN hP hD [0] rfl rfl (ci := 0) (q0 := 0) rfl rfl rfl rfl hl.1 rfl (Nat.le_of_ble_eq_true rfl) dX0_verdictOf_7 ⟨Nat.le_refl 0, Nat.le_refl 0⟩) hP hD hS hA [0] ⟨rfl, rfl, rfl, rfl⟩ (fun H locs hP hD hS => ?_)
  refine lv_aload_n hx hb dX0_verdictOf_10 rfl (lv_at hl 0 rfl) ?_
  refine lv_iload_n hx hb dX0_verdictOf_11 rfl (lv_at hl 1 rfl) ?_
  obtain ⟨r2, hr2, h⟩ := bd_elim h
  refine ca_i (w' := [WX0 cy h0 a0 s0]) (rn_V (As := [.int p1]) (rest := [.int r1, .int (gi s0 12), .ref h0]) ⟨hx, hb, hml, hown, hts⟩ (kX0_believersOf l D cy h0 a0 s0 p1 r2 hr2 H.size) (cwV 1 hts gX0_verdictOf_X0_believersOf rfl rfl rfl (by decide +kernel) ⟨Nat.le_of_ble_eq_true rfl, Nat.le_of_ble_eq_true rfl⟩) hK hN hP hD [0] rfl rfl (ci := 0) (q0 := 0) rfl rfl rfl rfl hl.1 rfl (Nat.le_of_ble_eq_true rfl) dX0_verdictOf_12 ⟨Nat.le_refl 0, Nat.le_refl 0⟩) hP hD hS hA [0] ⟨rfl, rfl, rfl, rfl⟩ (fun H locs hP hD hS => ?_)
  obtain ⟨r3, hr3, h⟩ := bd_elim h
  refine ca_i (w' := [WX0 cy h0 a0 s0]) (rn_V (As := [.int (gi s0 12), .int r1, .int r2]) (rest := []) ⟨hx, hb, hml, hown, hts⟩ (kX0_verdict l D cy h0 a0 s0 (gi s0 12) r1 r2 r3 hr3 H.size) (cwV 3 hts gX0_verdictOf_X0_verdict rfl rfl rfl (by decide +kernel) ⟨Nat.le_of_ble_eq_true rfl, Nat.le_of_ble_eq_true rfl⟩) hK hN hP hD [0] rfl rfl (ci := 0) (q0 := 0) rfl rfl rfl rfl hl.1 rfl (Nat.le_of_ble_eq_true rfl) dX0_verdictOf_15 ⟨Nat.le_refl 0, Nat.le_refl 0⟩) hP hD hS hA [0] ⟨rfl, rfl, rfl, rfl⟩ (fun H locs hP hD hS => ?_)
  exact hret 18 H locs ls r3 (Option.some.inj h) hP hD hS dX0_verdictOf_18
theorem dX8_kindOf_0 : decode cX8_kindOf 0 = .ok (.iload_n 0, 1) := by decide +kernel
theorem dX8_kindOf_1 : decode cX8_kindOf 1 = .ok (.bipush 97, 2) := by decide +kernel
theorem dX8_kindOf_3 : decode cX8_kindOf 3 = .ok (.if_icmp .lt 11, 3) := by decide +kernel
theorem dX8_kindOf_6 : decode cX8_kindOf 6 = .ok (.iload_n 0, 1) := by decide +kernel
theorem dX8_kindOf_7 : decode cX8_kindOf 7 = .ok (.bipush 122, 2) := by decide +kernel
theorem dX8_kindOf_9 : decode cX8_kindOf 9 = .ok (.if_icmp .gt 5, 3) := by decide +kernel
theorem dX8_kindOf_12 : decode cX8_kindOf 12 = .ok (.iconst 1, 1) := by decide +kernel
theorem dX8_kindOf_13 : decode cX8_kindOf 13 = .ok (.ireturn, 1) := by decide +kernel
theorem dX8_kindOf_14 : decode cX8_kindOf 14 = .ok (.iload_n 0, 1) := by decide +kernel
theorem dX8_kindOf_15 : decode cX8_kindOf 15 = .ok (.bipush 48, 2) := by decide +kernel
theorem dX8_kindOf_17 : decode cX8_kindOf 17 = .ok (.if_icmp .lt 11, 3) := by decide +kernel
theorem dX8_kindOf_20 : decode cX8_kindOf 20 = .ok (.iload_n 0, 1) := by decide +kernel
theorem dX8_kindOf_21 : decode cX8_kindOf 21 = .ok (.bipush 57, 2) := by decide +kernel
theorem dX8_kindOf_23 : decode cX8_kindOf 23 = .ok (.if_icmp .gt 5, 3) := by decide +kernel
theorem dX8_kindOf_26 : decode cX8_kindOf 26 = .ok (.iconst 2, 1) := by decide +kernel
theorem dX8_kindOf_27 : decode cX8_kindOf 27 = .ok (.ireturn, 1) := by decide +kernel
theorem dX8_kindOf_28 : decode cX8_kindOf 28 = .ok (.iload_n 0, 1) := by decide +kernel
theorem dX8_kindOf_29 : decode cX8_kindOf 29 = .ok (.bipush 59, 2) := by decide +kernel
theorem dX8_kindOf_31 : decode cX8_kindOf 31 = .ok (.if_icmp .eq 21, 3) := by decide +kernel
theorem dX8_kindOf_34 : decode cX8_kindOf 34 = .ok (.iload_n 0, 1) := by decide +kernel
theorem dX8_kindOf_35 : decode cX8_kindOf 35 = .ok (.bipush 60, 2) := by decide +kernel
theorem dX8_kindOf_37 : decode cX8_kindOf 37 = .ok (.if_icmp .eq 15, 3) := by decide +kernel
theorem dX8_kindOf_40 : decode cX8_kindOf 40 = .ok (.iload_n 0, 1) := by decide +kernel
theorem dX8_kindOf_41 : decode cX8_kindOf 41 = .ok (.bipush 62, 2) := by decide +kernel
theorem dX8_kindOf_43 : decode cX8_kindOf 43 = .ok (.if_icmp .eq 9, 3) := by decide +kernel
theorem dX8_kindOf_46 : decode cX8_kindOf 46 = .ok (.iload_n 0, 1) := by decide +kernel
theorem dX8_kindOf_47 : decode cX8_kindOf 47 = .ok (.bipush 61, 2) := by decide +kernel
theorem dX8_kindOf_49 : decode cX8_kindOf 49 = .ok (.if_icmp .ne 5, 3) := by decide +kernel
theorem dX8_kindOf_52 : decode cX8_kindOf 52 = .ok (.iconst 3, 1) := by decide +kernel
theorem dX8_kindOf_53 : decode cX8_kindOf 53 = .ok (.ireturn, 1) := by decide +kernel
theorem dX8_kindOf_54 : decode cX8_kindOf 54 = .ok (.iload_n 0, 1) := by decide +kernel
theorem dX8_kindOf_55 : decode cX8_kindOf 55 = .ok (.bipush 10, 2) := by decide +kernel
theorem dX8_kindOf_57 : decode cX8_kindOf 57 = .ok (.if_icmp .eq 9, 3) := by decide +kernel
theorem dX8_kindOf_60 : decode cX8_kindOf 60 = .ok (.iload_n 0, 1) := by decide +kernel
theorem dX8_kindOf_61 : decode cX8_kindOf 61 = .ok (.bipush 32, 2) := by decide +kernel
theorem dX8_kindOf_63 : decode cX8_kindOf 63 = .ok (.if_icmp .ne 7, 3) := by decide +kernel
theorem dX8_kindOf_66 : decode cX8_kindOf 66 = .ok (.iconst 4, 1) := by decide +kernel
theorem dX8_kindOf_67 : decode cX8_kindOf 67 = .ok (.goto 4, 3) := by decide +kernel
theorem dX8_kindOf_70 : decode cX8_kindOf 70 = .ok (.iconst 5, 1) := by decide +kernel
theorem dX8_kindOf_71 : decode cX8_kindOf 71 = .ok (.ireturn, 1) := by decide +kernel
abbrev rmX8_kindOf : Room := { frames := 0, cells := 0, slots := 0, locals := 0 }
set_option maxHeartbeats 4000000 in
set_option maxRecDepth 100000 in
theorem kX8_kindOf (l : Launch) (D : va_G) (cy : Nat → ClassId) (p1 : Int32) (res : Int32) (h : fX8_kindOf p1 = res) : CI l D cy yX8_kindOf wsX8_kindOf rmX8_kindOf [.int p1] (flat []) (flat []) res := by
  refine CI.of (cc := cX8_kindOf) (maxL := 1) (by decide) rfl (Nat.le_of_ble_eq_true rfl) ?_
  intro p e s m args below meth c A QQ ls E hr
  obtain ⟨hx, hb, hml, hown, hts, hK, hN, hP, hD, hA, hl⟩ := E
  have hret : ∀ (pc : Nat) (H : Heap) (locs : List Loc) (ls : Array Slot) (u : Int32), u = res → va_P D vwCl (flat []) H → va_D A (flat []) → va_S A s.heap H locs → decode cX8_kindOf pc = .ok (.ireturn, 1) → W p l e rmX8_kindOf s m args below meth c H locs 0 0 QQ (F0 m pc ls [.int u]) := by
    intro pc H locs ls u hu hP hD hS hd; subst hu; exact hr pc H locs ls _ rfl hP hD hS hd
  clear hr
  have hl : lv_has ls 1 [(0, .int p1)] := hl
  unfold fX8_kindOf at h
  suffices key : ∀ (H : Heap) (locs : List Loc), va_P D vwCl (flat []) H → va_S A s.heap H locs → W p l e rmX8_kindOf s m args below meth c H locs 0 0 QQ (F0 m 0 ls []) from key _ _ hP va_S.rf
  clear hP
  intro H locs hP hS
  have J28 : ∀  (H : Heap) (locs : List Loc) (ls : Array Slot), lv_has ls 1 [(0, .int p1)] → va_P D vwCl (flat []) H → va_D A (flat []) → va_S A s.heap H locs → fX8_kindOf_J28 p1 = res → W p l e rmX8_kindOf s m args below meth c H locs 0 0 QQ (F0 m 28 ls []) := by
    intro  H locs ls hl hP hD hS h
    unfold fX8_kindOf_J28 at h
    refine lv_iload_n hx hb dX8_kindOf_28 rfl (lv_at hl 0 rfl) ?_
    refine lv_bipush (v := 59) hx hb dX8_kindOf_29 (by decide) ?_
    refine lv_icmp_eq (tgt := 52) hx hb dX8_kindOf_31 (by decide) (fun c1 => ?_) (fun c1 => ?_)
    · replace h := (if_pos c1).symm.trans h
      refine lv_iconst (v := 3) hx hb dX8_kindOf_52 (by decide) ?_
      exact hret 53 H locs ls (3 : Int32) h hP hD hS dX8_kindOf_53
    · replace h := (if_neg c1).symm.trans h
      refine lv_iload_n hx hb dX8_kindOf_34 rfl (lv_at hl 0 rfl) ?_
      refine lv_bipush (v := 60) hx hb dX8_kindOf_35 (by decide) ?_
      refine lv_icmp_eq (tgt := 52) hx hb dX8_kindOf_37 (by decide) (fun c2 => ?_) (fun c2 => ?_)
      · replace h := (if_pos c2).symm.trans h
        refine lv_iconst (v := 3) hx hb dX8_kindOf_52 (by decide) ?_
        exact hret 53 H locs ls (3 : Int32) h hP hD hS dX8_kindOf_53
      · replace h := (if_neg c2).symm.trans h
        refine lv_iload_n hx hb dX8_kindOf_40 rfl (lv_at hl 0 rfl) ?_
        refine lv_bipush (v := 62) hx hb dX8_kindOf_41 (by decide) ?_
        refine lv_icmp_eq (tgt := 52) hx hb dX8_kindOf_43 (by decide) (fun c3 => ?_) (fun c3 => ?_)
        · replace h := (if_pos c3).symm.trans h
          refine lv_iconst (v := 3) hx hb dX8_kindOf_52 (by decide) ?_
          exact hret 53 H locs ls (3 : Int32) h hP hD hS dX8_kindOf_53
        · replace h := (if_neg c3).symm.trans h
          refine lv_iload_n hx hb dX8_kindOf_46 rfl (lv_at hl 0 rfl) ?_
          refine lv_bipush (v := 61) hx hb dX8_kindOf_47 (by decide) ?_
          refine lv_icmp_ne (tgt := 54) hx hb dX8_kindOf_49 (by decide) (fun c4 => ?_) (fun c4 => ?_)
          · replace h := (if_neg c4).symm.trans h
            refine lv_iload_n hx hb dX8_kindOf_54 rfl (lv_at hl 0 rfl) ?_
            refine lv_bipush (v := 10) hx hb dX8_kindOf_55 (by decide) ?_
            refine lv_icmp_eq (tgt := 66) hx hb dX8_kindOf_57 (by decide) (fun c5 => ?_) (fun c5 => ?_)
            · replace h := (if_pos c5).symm.trans h
              refine lv_iconst (v := 4) hx hb dX8_kindOf_66 (by decide) ?_
              refine lv_goto (tgt := 71) hx hb dX8_kindOf_67 (by decide) ?_
              exact hret 71 H locs ls (4 : Int32) h hP hD hS dX8_kindOf_71
            · replace h := (if_neg c5).symm.trans h
              refine lv_iload_n hx hb dX8_kindOf_60 rfl (lv_at hl 0 rfl) ?_
              refine lv_bipush (v := 32) hx hb dX8_kindOf_61 (by decide) ?_
              refine lv_icmp_ne (tgt := 70) hx hb dX8_kindOf_63 (by decide) (fun c6 => ?_) (fun c6 => ?_)
              · replace h := (if_neg c6).symm.trans h
                refine lv_iconst (v := 5) hx hb dX8_kindOf_70 (by decide) ?_
                exact hret 71 H locs ls (5 : Int32) h hP hD hS dX8_kindOf_71
              · replace h := (if_pos c6).symm.trans h
                refine lv_iconst (v := 4) hx hb dX8_kindOf_66 (by decide) ?_
                refine lv_goto (tgt := 71) hx hb dX8_kindOf_67 (by decide) ?_
                exact hret 71 H locs ls (4 : Int32) h hP hD hS dX8_kindOf_71
          · replace h := (if_pos c4).symm.trans h
            refine lv_iconst (v := 3) hx hb dX8_kindOf_52 (by decide) ?_
            exact hret 53 H locs ls (3 : Int32) h hP hD hS dX8_kindOf_53
  have J14 : ∀  (H : Heap) (locs : List Loc) (ls : Array Slot), lv_has ls 1 [(0, .int p1)] → va_P D vwCl (flat []) H → va_D A (flat []) → va_S A s.heap H locs → fX8_kindOf_J14 p1 = res → W p l e rmX8_kindOf s m args below meth c H locs 0 0 QQ (F0 m 14 ls []) := by
    intro  H locs ls hl hP hD hS h
    unfold fX8_kindOf_J14 at h
    refine lv_iload_n hx hb dX8_kindOf_14 rfl (lv_at hl 0 rfl) ?_
    refine lv_bipush (v := 48) hx hb dX8_kindOf_15 (by decide) ?_
    refine lv_icmp_lt (tgt := 28) hx hb dX8_kindOf_17 (by decide) (fun c7 => ?_) (fun c7 => ?_)
    · replace h := (if_pos c7).symm.trans h
      exact J28  H locs ls (lv_sub hl [0] rfl) hP hD hS h
    · replace h := (if_neg c7).symm.trans h
      refine lv_iload_n hx hb dX8_kindOf_20 rfl (lv_at hl 0 rfl) ?_
      refine lv_bipush (v := 57) hx hb dX8_kindOf_21 (by decide) ?_
      refine lv_icmp_gt (tgt := 28) hx hb dX8_kindOf_23 (by decide) (fun c8 => ?_) (fun c8 => ?_)
      · replace h := (if_pos c8).symm.trans h
        exact J28  H locs ls (lv_sub hl [0] rfl) hP hD hS h
      · replace h := (if_neg c8).symm.trans h
        refine lv_iconst (v := 2) hx hb dX8_kindOf_26 (by decide) ?_
        exact hret 27 H locs ls (2 : Int32) h hP hD hS dX8_kindOf_27
  refine lv_iload_n hx hb dX8_kindOf_0 rfl (lv_at hl 0 rfl) ?_
  refine lv_bipush (v := 97) hx hb dX8_kindOf_1 (by decide) ?_
  refine lv_icmp_lt (tgt := 14) hx hb dX8_kindOf_3 (by decide) (fun c9 => ?_) (fun c9 => ?_)
  · replace h := (if_pos c9).symm.trans h
    exact J14  H locs ls (lv_sub hl [0] rfl) hP hD hS h
  · replace h := (if_neg c9).symm.trans h
    refine lv_iload_n hx hb dX8_kindOf_6 rfl (lv_at hl 0 rfl) ?_
    refine lv_bipush (v := 122) hx hb dX8_kindOf_7 (by decide) ?_
    refine lv_icmp_gt (tgt := 14) hx hb dX8_kindOf_9 (by decide) (fun c10 => ?_) (fun c10 => ?_)
    · replace h := (if_pos c10).symm.trans h
      exact J14  H locs ls (lv_sub hl [0] rfl) hP hD hS h
    · replace h := (if_neg c10).symm.trans h
      refine lv_iconst (v := 1) hx hb dX8_kindOf_12 (by decide) ?_
      exact hret 13 H locs ls (1 : Int32) h hP hD hS dX8_kindOf_13
theorem dX8_withLetter_0 : decode cX8_withLetter 0 = .ok (.lload_n 0, 1) := by decide +kernel
theorem dX8_withLetter_1 : decode cX8_withLetter 1 = .ok (.iconst 5, 1) := by decide +kernel
theorem dX8_withLetter_2 : decode cX8_withLetter 2 = .ok (.lshl, 1) := by decide +kernel
theorem dX8_withLetter_3 : decode cX8_withLetter 3 = .ok (.iload_n 2, 1) := by decide +kernel
theorem dX8_withLetter_4 : decode cX8_withLetter 4 = .ok (.bipush 97, 2) := by decide +kernel
theorem dX8_withLetter_6 : decode cX8_withLetter 6 = .ok (.isub, 1) := by decide +kernel
theorem dX8_withLetter_7 : decode cX8_withLetter 7 = .ok (.iconst 1, 1) := by decide +kernel
theorem dX8_withLetter_8 : decode cX8_withLetter 8 = .ok (.iadd, 1) := by decide +kernel
theorem dX8_withLetter_9 : decode cX8_withLetter 9 = .ok (.i2l, 1) := by decide +kernel
theorem dX8_withLetter_10 : decode cX8_withLetter 10 = .ok (.lor, 1) := by decide +kernel
theorem dX8_withLetter_11 : decode cX8_withLetter 11 = .ok (.lreturn, 1) := by decide +kernel
abbrev rmX8_withLetter : Room := { frames := 0, cells := 0, slots := 0, locals := 0 }
set_option maxHeartbeats 4000000 in
set_option maxRecDepth 100000 in
theorem kX8_withLetter (l : Launch) (D : va_G) (cy : Nat → ClassId) (p1 : Int64) (p2 : Int32) (res : Int64) (h : fX8_withLetter p1 p2 = res) : CL l D cy yX8_withLetter wsX8_withLetter rmX8_withLetter [.long p1, .int p2] (flat []) (flat []) res := by
  refine CL.of (cc := cX8_withLetter) (maxL := 3) (by decide) rfl (Nat.le_of_ble_eq_true rfl) ?_
  intro p e s m args below meth c A QQ ls E hr
  obtain ⟨hx, hb, hml, hown, hts, hK, hN, hP, hD, hA, hl⟩ := E
  have hret : ∀ (pc : Nat) (H : Heap) (locs : List Loc) (ls : Array Slot) (u : Int64), u = res → va_P D vwCl (flat []) H → va_D A (flat []) → va_S A s.heap H locs → decode cX8_withLetter pc = .ok (.lreturn, 1) → W p l e rmX8_withLetter s m args below meth c H locs 0 0 QQ (F0 m pc ls [.long u]) := by
    intro pc H locs ls u hu hP hD hS hd; subst hu; exact hr pc H locs ls _ rfl hP hD hS hd
  clear hr
  have hl : lv_has ls 3 [(0, .long p1), (2, .int p2)] := hl
  unfold fX8_withLetter at h
  suffices key : ∀ (H : Heap) (locs : List Loc), va_P D vwCl (flat []) H → va_S A s.heap H locs → W p l e rmX8_withLetter s m args below meth c H locs 0 0 QQ (F0 m 0 ls []) from key _ _ hP va_S.rf
  clear hP
  intro H locs hP hS
  refine lv_lload_n hx hb dX8_withLetter_0 rfl (lv_at hl 0 rfl) ?_
  refine lv_iconst (v := 5) hx hb dX8_withLetter_1 (by decide) ?_
  refine lv_lshl hx hb dX8_withLetter_2 rfl ?_
  refine lv_iload_n hx hb dX8_withLetter_3 rfl (lv_at hl 1 rfl) ?_
  refine lv_bipush (v := 97) hx hb dX8_withLetter_4 (by decide) ?_
  refine lv_isub hx hb dX8_withLetter_6 ?_
  refine lv_iconst (v := 1) hx hb dX8_withLetter_7 (by decide) ?_
  refine lv_iadd hx hb dX8_withLetter_8 ?_
  refine lv_i2l hx hb dX8_withLetter_9 rfl ?_
  refine lv_lor hx hb dX8_withLetter_10 ?_
  exact hret 11 H locs ls ((p1 <<< ((5 : Int32).toInt64 &&& 63)) ||| (((p2 - (97 : Int32)) + (1 : Int32)).toInt64)) h hP hD hS dX8_withLetter_11
theorem gd_X8_lookAtWord : wsX8_lookAtWord.all goodWord = true := by decide +kernel
set_option maxRecDepth 20000 in
theorem ggX8_lookAtWord_X8_kindOf : GoodIn wsX8_lookAtWord wsX8_kindOf := goodIn_by gd_X8_lookAtWord (List.forall_mem_cons.mpr ⟨List.mem_cons_of_mem _ (List.mem_append_left _ (List.mem_of_getElem? (i := 10) rfl)), nowords_in⟩)
set_option maxRecDepth 20000 in
theorem gX8_lookAtWord_X8_kindOf : GoodIn wsX8_lookAtWord (va_wsS RX8 78 yX8_kindOf wsX8_kindOf) := goodIn_app (goodIn_by gd_X8_lookAtWord (List.forall_mem_cons.mpr ⟨List.mem_cons_of_mem _ (List.mem_append_left _ (List.mem_of_getElem? (i := 7) rfl)), List.forall_mem_cons.mpr ⟨List.mem_cons_of_mem _ (List.mem_append_left _ (List.mem_of_getElem? (i := 8) rfl)), List.forall_mem_cons.mpr ⟨List.mem_cons_of_mem _ (List.mem_append_left _ (List.mem_of_getElem? (i := 9) rfl)), nowords_in⟩⟩⟩)) ggX8_lookAtWord_X8_kindOf
set_option maxRecDepth 20000 in
theorem ggX8_lookAtWord_X8_withLetter : GoodIn wsX8_lookAtWord wsX8_withLetter := goodIn_by gd_X8_lookAtWord (List.forall_mem_cons.mpr ⟨List.mem_cons_of_mem _ (List.mem_append_left _ (List.mem_of_getElem? (i := 13) rfl)), nowords_in⟩)
set_option maxRecDepth 20000 in
theorem gX8_lookAtWord_X8_withLetter : GoodIn wsX8_lookAtWord (va_wsS RX8 70 yX8_withLetter wsX8_withLetter) := goodIn_app (goodIn_by gd_X8_lookAtWord (List.forall_mem_cons.mpr ⟨List.mem_cons_of_mem _ (List.mem_append_left _ (List.mem_of_getElem? (i := 11) rfl)), List.forall_mem_cons.mpr ⟨List.mem_cons_of_mem _ (List.mem_append_left _ (List.mem_of_getElem? (i := 12) rfl)), List.forall_mem_cons.mpr ⟨List.mem_cons_of_mem _ (List.mem_append_left _ (List.mem_of_getElem? (i := 9) rfl)), nowords_in⟩⟩⟩)) ggX8_lookAtWord_X8_withLetter
theorem dX8_lookAtWord_0 : decode cX8_lookAtWord 0 = .ok (.lconst 0, 1) := by decide +kernel
theorem dX8_lookAtWord_1 : decode cX8_lookAtWord 1 = .ok (.lstore_n 1, 1) := by decide +kernel
theorem dX8_lookAtWord_2 : decode cX8_lookAtWord 2 = .ok (.aload_n 0, 1) := by decide +kernel
theorem dX8_lookAtWord_3 : decode cX8_lookAtWord 3 = .ok (.getfield 29, 3) := by decide +kernel
theorem dX8_lookAtWord_6 : decode cX8_lookAtWord 6 = .ok (.aload_n 0, 1) := by decide +kernel
theorem dX8_lookAtWord_7 : decode cX8_lookAtWord 7 = .ok (.getfield 23, 3) := by decide +kernel
theorem dX8_lookAtWord_10 : decode cX8_lookAtWord 10 = .ok (.if_icmp .ge 46, 3) := by decide +kernel
theorem dX8_lookAtWord_13 : decode cX8_lookAtWord 13 = .ok (.aload_n 0, 1) := by decide +kernel
theorem dX8_lookAtWord_14 : decode cX8_lookAtWord 14 = .ok (.getfield 9, 3) := by decide +kernel
theorem dX8_lookAtWord_17 : decode cX8_lookAtWord 17 = .ok (.aload_n 0, 1) := by decide +kernel
theorem dX8_lookAtWord_18 : decode cX8_lookAtWord 18 = .ok (.getfield 29, 3) := by decide +kernel
theorem dX8_lookAtWord_21 : decode cX8_lookAtWord 21 = .ok (.baload, 1) := by decide +kernel
theorem dX8_lookAtWord_22 : decode cX8_lookAtWord 22 = .ok (.invokestatic 78, 3) := by decide +kernel
theorem dX8_lookAtWord_25 : decode cX8_lookAtWord 25 = .ok (.iconst 1, 1) := by decide +kernel
theorem dX8_lookAtWord_26 : decode cX8_lookAtWord 26 = .ok (.if_icmp .ne 30, 3) := by decide +kernel
theorem dX8_lookAtWord_29 : decode cX8_lookAtWord 29 = .ok (.lload_n 1, 1) := by decide +kernel
theorem dX8_lookAtWord_30 : decode cX8_lookAtWord 30 = .ok (.aload_n 0, 1) := by decide +kernel
theorem dX8_lookAtWord_31 : decode cX8_lookAtWord 31 = .ok (.getfield 9, 3) := by decide +kernel
theorem dX8_lookAtWord_34 : decode cX8_lookAtWord 34 = .ok (.aload_n 0, 1) := by decide +kernel
theorem dX8_lookAtWord_35 : decode cX8_lookAtWord 35 = .ok (.getfield 29, 3) := by decide +kernel
theorem dX8_lookAtWord_38 : decode cX8_lookAtWord 38 = .ok (.baload, 1) := by decide +kernel
theorem dX8_lookAtWord_39 : decode cX8_lookAtWord 39 = .ok (.invokestatic 70, 3) := by decide +kernel
theorem dX8_lookAtWord_42 : decode cX8_lookAtWord 42 = .ok (.lstore_n 1, 1) := by decide +kernel
theorem dX8_lookAtWord_43 : decode cX8_lookAtWord 43 = .ok (.aload_n 0, 1) := by decide +kernel
theorem dX8_lookAtWord_44 : decode cX8_lookAtWord 44 = .ok (.dup, 1) := by decide +kernel
theorem dX8_lookAtWord_45 : decode cX8_lookAtWord 45 = .ok (.getfield 29, 3) := by decide +kernel
theorem dX8_lookAtWord_48 : decode cX8_lookAtWord 48 = .ok (.iconst 1, 1) := by decide +kernel
theorem dX8_lookAtWord_49 : decode cX8_lookAtWord 49 = .ok (.iadd, 1) := by decide +kernel
theorem dX8_lookAtWord_50 : decode cX8_lookAtWord 50 = .ok (.putfield 29, 3) := by decide +kernel
theorem dX8_lookAtWord_53 : decode cX8_lookAtWord 53 = .ok (.goto (-51), 3) := by decide +kernel
theorem dX8_lookAtWord_56 : decode cX8_lookAtWord 56 = .ok (.aload_n 0, 1) := by decide +kernel
theorem dX8_lookAtWord_57 : decode cX8_lookAtWord 57 = .ok (.getfield 29, 3) := by decide +kernel
theorem dX8_lookAtWord_60 : decode cX8_lookAtWord 60 = .ok (.aload_n 0, 1) := by decide +kernel
theorem dX8_lookAtWord_61 : decode cX8_lookAtWord 61 = .ok (.getfield 26, 3) := by decide +kernel
theorem dX8_lookAtWord_64 : decode cX8_lookAtWord 64 = .ok (.isub, 1) := by decide +kernel
theorem dX8_lookAtWord_65 : decode cX8_lookAtWord 65 = .ok (.bipush 8, 2) := by decide +kernel
theorem dX8_lookAtWord_67 : decode cX8_lookAtWord 67 = .ok (.if_icmp .le 4, 3) := by decide +kernel
theorem dX8_lookAtWord_70 : decode cX8_lookAtWord 70 = .ok (.return_, 1) := by decide +kernel
theorem dX8_lookAtWord_71 : decode cX8_lookAtWord 71 = .ok (.aload_n 0, 1) := by decide +kernel
theorem dX8_lookAtWord_72 : decode cX8_lookAtWord 72 = .ok (.lload_n 1, 1) := by decide +kernel
theorem dX8_lookAtWord_73 : decode cX8_lookAtWord 73 = .ok (.putfield 37, 3) := by decide +kernel
theorem dX8_lookAtWord_76 : decode cX8_lookAtWord 76 = .ok (.iconst 0, 1) := by decide +kernel
theorem dX8_lookAtWord_77 : decode cX8_lookAtWord 77 = .ok (.istore_n 3, 1) := by decide +kernel
theorem dX8_lookAtWord_78 : decode cX8_lookAtWord 78 = .ok (.iload_n 3, 1) := by decide +kernel
theorem dX8_lookAtWord_79 : decode cX8_lookAtWord 79 = .ok (.bipush 30, 2) := by decide +kernel
theorem dX8_lookAtWord_81 : decode cX8_lookAtWord 81 = .ok (.if_icmp .ge 28, 3) := by decide +kernel
theorem dX8_lookAtWord_84 : decode cX8_lookAtWord 84 = .ok (.aload_n 0, 1) := by decide +kernel
theorem dX8_lookAtWord_85 : decode cX8_lookAtWord 85 = .ok (.getfield 15, 3) := by decide +kernel
theorem dX8_lookAtWord_88 : decode cX8_lookAtWord 88 = .ok (.iload_n 3, 1) := by decide +kernel
theorem dX8_lookAtWord_89 : decode cX8_lookAtWord 89 = .ok (.laload, 1) := by decide +kernel
theorem dX8_lookAtWord_90 : decode cX8_lookAtWord 90 = .ok (.aload_n 0, 1) := by decide +kernel
theorem dX8_lookAtWord_91 : decode cX8_lookAtWord 91 = .ok (.getfield 37, 3) := by decide +kernel
theorem dX8_lookAtWord_94 : decode cX8_lookAtWord 94 = .ok (.lcmp, 1) := by decide +kernel
theorem dX8_lookAtWord_95 : decode cX8_lookAtWord 95 = .ok (.ifCond .ne 8, 3) := by decide +kernel
theorem dX8_lookAtWord_98 : decode cX8_lookAtWord 98 = .ok (.aload_n 0, 1) := by decide +kernel
theorem dX8_lookAtWord_99 : decode cX8_lookAtWord 99 = .ok (.iload_n 3, 1) := by decide +kernel
theorem dX8_lookAtWord_100 : decode cX8_lookAtWord 100 = .ok (.putfield 41, 3) := by decide +kernel
theorem dX8_lookAtWord_103 : decode cX8_lookAtWord 103 = .ok (.iinc 3 1, 3) := by decide +kernel
theorem dX8_lookAtWord_106 : decode cX8_lookAtWord 106 = .ok (.goto (-28), 3) := by decide +kernel
theorem dX8_lookAtWord_109 : decode cX8_lookAtWord 109 = .ok (.return_, 1) := by decide +kernel
abbrev rmX8_lookAtWord : Room := { frames := 1, cells := 0, slots := 0, locals := 22 }
set_option maxHeartbeats 4000000 in
set_option maxRecDepth 100000 in
theorem kX8_lookAtWord (l : Launch) (D : va_G) (cy : Nat → ClassId) (h0 : Nat) (a0 : Nat → Nat) (s0 : Rc) (res : Rc) (h : fX8_lookAtWord s0 = some res) : CV l D cy yX8_lookAtWord wsX8_lookAtWord rmX8_lookAtWord [.ref h0] (flat [WX8 cy h0 a0 s0]) (flat [WX8 cy h0 a0 res]) := by
  refine CV.of (cc := cX8_lookAtWord) (maxL := 4) (by decide) rfl (Nat.le_of_ble_eq_true rfl) ?_
  intro p e s m args below meth c A QQ ls E hr
  obtain ⟨hx, hb, hml, hown, hts, hK, hN, hP, hD, hA, hl⟩ := E
  have hret : ∀ (pc : Nat) (H : Heap) (locs : List Loc) (ls : Array Slot) (u : Rc), u = res → va_P D vwCl (flat [WX8 cy h0 a0 u]) H → va_D A (flat [WX8 cy h0 a0 u]) → va_S A s.heap H locs → decode cX8_lookAtWord pc = .ok (.return_, 1) → W p l e rmX8_lookAtWord s m args below meth c H locs 0 0 QQ (F0 m pc ls []) := by
    intro pc H locs ls u hu hP hD hS hd; subst hu; exact hr pc H locs ls hP hD hS hd
  clear hr
  have hl : lv_has ls 4 [(0, .ref h0)] := hl
  have hinX8 : ∀ w ∈ wsX80, w ∈ wsX8_lookAtWord := fun _ h => List.mem_cons_of_mem _ (List.mem_append_right _ h)
  unfold fX8_lookAtWord at h
  suffices key : ∀ (H : Heap) (locs : List Loc), va_P D vwCl (flat [WX8 cy h0 a0 s0]) H → va_S A s.heap H locs → W p l e rmX8_lookAtWord s m args below meth c H locs 0 0 QQ (F0 m 0 ls []) from key _ _ hP va_S.rf
  clear hP
  intro H locs hP hS
  have J56 : ∀ (y56_1 : Int64) (t56_0 : Rc) (H : Heap) (locs : List Loc) (ls : Array Slot), lv_has ls 4 [(0, .ref h0), (1, .long y56_1)] → va_P D vwCl (flat [WX8 cy h0 a0 t56_0]) H → va_D A (flat [WX8 cy h0 a0 t56_0]) → va_S A s.heap H locs → fX8_lookAtWord_J56 y56_1 t56_0 = some res → W p l e rmX8_lookAtWord s m args below meth c H locs 0 0 QQ (F0 m 56 ls []) := by
    intro y56_1 t56_0 H locs ls hl hP hD hS h
    unfold fX8_lookAtWord_J56 at h
    refine lv_aload_n hx hb dX8_lookAtWord_56 rfl (lv_at hl 0 rfl) ?_
    refine va_get (D := D) (ci := 8) (v := .int (gi t56_0 5)) (C := RX8) (T := TX8) (N := 14) hx hb hts hinX8 hown hK hP 0 rfl rfl 5 (by decide) (hts (.fieldLink RX8 29 "KneeBench$Tokens" "behind" "I") (List.mem_of_getElem? (i := 1) rfl)) (fun _ h9 => h9) rfl dX8_lookAtWord_57 ?_
    refine lv_aload_n hx hb dX8_lookAtWord_60 rfl (lv_at hl 0 rfl) ?_
    refine va_get (D := D) (ci := 8) (v := .int (gi t56_0 4)) (C := RX8) (T := TX8) (N := 14) hx hb hts hinX8 hown hK hP 0 rfl rfl 4 (by decide) (hts (.fieldLink RX8 26 "KneeBench$Tokens" "place" "I") (List.mem_of_getElem? (i := 4) rfl)) (fun _ h9 => h9) rfl dX8_lookAtWord_61 ?_
    refine lv_isub hx hb dX8_lookAtWord_64 ?_
    refine lv_bipush (v := 8) hx hb dX8_lookAtWord_65 (by decide) ?_
    refine lv_icmp_le (tgt := 71) hx hb dX8_lookAtWord_67 (by decide) (fun c1 => ?_) (fun c1 => ?_)
    · replace h := (if_pos c1).symm.trans h
      refine lv_aload_n hx hb dX8_lookAtWord_71 rfl (lv_at hl 0 rfl) ?_
      refine lv_lload_n hx hb dX8_lookAtWord_72 rfl (lv_at hl 1 rfl) ?_
      obtain ⟨s0_2, es, h⟩ := lt_elim h
      refine va_put (D := D) (ci := 8) (v := .long y56_1) (ty := .long) (C := RX8) (T := TX8) (N := 14) hx hb hts hinX8 tyX8 tyX8_ok nmX8 hown hK hP hD hS 0 rfl rfl 7 (by decide) (hts (.fieldLink RX8 37 "KneeBench$Tokens" "word" "J") (List.mem_of_getElem? (i := 5) rfl)) (fun _ h9 => h9) rfl (by decide +kernel) rfl rfl (Nat.le_of_ble_eq_true rfl) dX8_lookAtWord_73 (fun H locs hP hD hS => ?_)
      have hP : va_P D vwCl (flat [WX8 cy h0 a0 s0_2]) H := by rw [es]; exact hP
      have hD : va_D A (flat [WX8 cy h0 a0 s0_2]) := by rw [es]; exact hD
      clear es
      refine lv_iconst (v := 0) hx hb dX8_lookAtWord_76 (by decide) ?_
      refine lv_istore_n (lv' := [(3, .int (0 : Int32)), (0, .ref h0), (1, .long y56_1)]) hx hb dX8_lookAtWord_77 rfl hl (by decide) rfl (fun ls hl => ?_)
      have L78 : ∀ (n : Nat) (q78 : Int32 × Rc) (o : Rc), loopO (fX8_lookAtWord_L78) n q78 = some o → ∀ (H : Heap) (locs : List Loc) (ls : Array Slot), lv_has ls 4 [(0, .ref h0), (3, .int q78.1)] → va_P D vwCl (flat [WX8 cy h0 a0 q78.2]) H → va_D A (flat [WX8 cy h0 a0 q78.2]) → va_S A s.heap H locs → ∀ (kk109 : ∀ (H : Heap) (locs : List Loc) (ls : Array Slot), lv_has ls 4 [] → va_P D vwCl (flat [WX8 cy h0 a0 o]) H → va_D A (flat [WX8 cy h0 a0 o]) → va_S A s.heap H locs → W p l e rmX8_lookAtWord s m args below meth c H locs 0 0 QQ (F0 m 109 ls [])), W p l e rmX8_lookAtWord s m args below meth c H locs 0 0 QQ (F0 m 78 ls []) := by
        intro n
        induction n with
        | zero => intro q78 o h; exact absurd h (by rw [loopO_zero]; intro z; cases z)
        | succ n ih =>
          intro q78 o h H locs ls hl hP hD hS kk109
          obtain ⟨w, h, hgo, hst⟩ := loopO_elim h
          unfold fX8_lookAtWord_L78 at h
          refine lv_iload_n hx hb dX8_lookAtWord_78 rfl (lv_at hl 1 rfl) ?_
          refine lv_bipush (v := 30) hx hb dX8_lookAtWord_79 (by decide) ?_
          refine lv_icmp_ge (tgt := 109) hx hb dX8_lookAtWord_81 (by decide) (fun c3 => ?_) (fun c3 => ?_)
          · replace h := (if_pos c3).symm.trans h
            have eo := hst _ (Option.some.inj h).symm
            subst eo
            exact kk109 H locs ls (lv_sub hl [] rfl) hP hD hS
          · replace h := (if_neg c3).symm.trans h
            refine lv_aload_n hx hb dX8_lookAtWord_84 rfl (lv_at hl 0 rfl) ?_
            refine va_get (D := D) (ci := 8) (v := .ref (a0 1)) (C := RX8) (T := TX8) (N := 14) hx hb hts hinX8 hown hK hP 0 rfl rfl 1 (by decide) (hts (.fieldLink RX8 15 "KneeBench$Tokens" "words" "[J") (List.mem_of_getElem? (i := 6) rfl)) (fun _ h9 => h9) rfl dX8_lookAtWord_85 ?_
            refine lv_iload_n hx hb dX8_lookAtWord_88 rfl (lv_at hl 1 rfl) ?_
            obtain ⟨g4, h⟩ := gd_elim h
            refine va_lald hx hb hK hP 2 2 rfl rfl (inb_in g4) dX8_lookAtWord_89 ?_
            refine lv_aload_n hx hb dX8_lookAtWord_90 rfl (lv_at hl 0 rfl) ?_
            refine va_get (D := D) (ci := 8) (v := .long (gl q78.2 7)) (C := RX8) (T := TX8) (N := 14) hx hb hts hinX8 hown hK hP 0 rfl rfl 7 (by decide) (hts (.fieldLink RX8 37 "KneeBench$Tokens" "word" "J") (List.mem_of_getElem? (i := 5) rfl)) (fun _ h9 => h9) rfl dX8_lookAtWord_91 ?_
            refine W.lcmp hx hb dX8_lookAtWord_94 ?_
            refine lv_if_ne (tgt := 103) hx hb dX8_lookAtWord_95 (by decide) (fun c5 => ?_) (fun c5 => ?_)
            · replace h := (if_neg (fun z => c5 (lg_ceq.mpr z))).symm.trans h
              refine lv_iinc (v := (q78.1 + (1 : Int32))) (lv' := [(3, .int (q78.1 + (1 : Int32))), (0, .ref h0)]) hx hb dX8_lookAtWord_103 hl (k := 1) rfl rfl (by decide) rfl (fun ls hl => ?_)
              refine lv_goto (tgt := 78) hx hb dX8_lookAtWord_106 (by decide) ?_
              exact ih _ o (hgo _ (Option.some.inj h).symm) H locs ls (lv_sub hl [1, 0] rfl) hP hD hS kk109
            · replace h := (if_pos (lg_ceq.mp c5)).symm.trans h
              refine lv_aload_n hx hb dX8_lookAtWord_98 rfl (lv_at hl 0 rfl) ?_
              refine lv_iload_n hx hb dX8_lookAtWord_99 rfl (lv_at hl 1 rfl) ?_
              obtain ⟨s0_6, es, h⟩ := lt_elim h
              refine va_put (D := D) (ci := 8) (v := .int q78.1) (ty := .int) (C := RX8) (T := TX8) (N := 14) hx hb hts hinX8 tyX8 tyX8_ok nmX8 hown hK hP hD hS 0 rfl rfl 8 (by decide) (hts (.fieldLink RX8 41 "KneeBench$Tokens" "keyword" "I") (List.mem_of_getElem? (i := 7) rfl)) (fun _ h9 => h9) rfl (by decide +kernel) rfl rfl (Nat.le_of_ble_eq_true rfl) dX8_lookAtWord_100 (fun H locs hP hD hS => ?_)
              have hP : va_P D vwCl (flat [WX8 cy h0 a0 s0_6]) H := by rw [es]; exact hP
              have hD : va_D A (flat [WX8 cy h0 a0 s0_6]) := by rw [es]; exact hD
              clear es
              refine lv_iinc (v := (q78.1 + (1 : Int32))) (lv' := [(3, .int (q78.1 + (1 : Int32))), (0, .ref h0)]) hx hb dX8_lookAtWord_103 hl (k := 1) rfl rfl (by decide) rfl (fun ls hl => ?_)
              refine lv_goto (tgt := 78) hx hb dX8_lookAtWord_106 (by decide) ?_
              exact ih _ o (hgo _ (Option.some.inj h).symm) H locs ls (lv_sub hl [1, 0] rfl) hP hD hS kk109
      obtain ⟨o78, ho78, h⟩ := bd_elim h
      obtain ⟨n78, hn78⟩ := loopF_some ho78
      refine L78 n78 _ o78 hn78 H locs ls (lv_sub hl [1, 0] rfl) hP hD hS (fun H locs ls hl hP hD hS => ?_)
      exact hret 109 H locs ls o78 (Option.some.inj h) hP hD hS dX8_lookAtWord_109
    · replace h := (if_neg c1).symm.trans h
      exact hret 70 H locs ls t56_0 (Option.some.inj h) hP hD hS dX8_lookAtWord_70
  refine lv_lconst (v := 0) hx hb dX8_lookAtWord_0 (by decide) ?_
  refine lv_lstore_n (lv' := [(1, .long (0 : Int64)), (0, .ref h0)]) hx hb dX8_lookAtWord_1 rfl hl (by decide) rfl (fun ls hl => ?_)
  have L2 : ∀ (n : Nat) (q2 : Int64 × Rc) (o : Int64 × Rc), loopO (fX8_lookAtWord_L2) n q2 = some o → ∀ (H : Heap) (locs : List Loc) (ls : Array Slot), lv_has ls 4 [(0, .ref h0), (1, .long q2.1)] → va_P D vwCl (flat [WX8 cy h0 a0 q2.2]) H → va_D A (flat [WX8 cy h0 a0 q2.2]) → va_S A s.heap H locs → ∀ (kk56 : ∀ (H : Heap) (locs : List Loc) (ls : Array Slot), lv_has ls 4 [(0, .ref h0), (1, .long o.1)] → va_P D vwCl (flat [WX8 cy h0 a0 o.2]) H → va_D A (flat [WX8 cy h0 a0 o.2]) → va_S A s.heap H locs → W p l e rmX8_lookAtWord s m args below meth c H locs 0 0 QQ (F0 m 56 ls [])), W p l e rmX8_lookAtWord s m args below meth c H locs 0 0 QQ (F0 m 2 ls []) := by
    intro n
    induction n with
    | zero => intro q2 o h; exact absurd h (by rw [loopO_zero]; intro z; cases z)
    | succ n ih =>
      intro q2 o h H locs ls hl hP hD hS kk56
      obtain ⟨w, h, hgo, hst⟩ := loopO_elim h
      unfold fX8_lookAtWord_L2 at h
      refine lv_aload_n hx hb dX8_lookAtWord_2 rfl (lv_at hl 0 rfl) ?_
      refine va_get (D := D) (ci := 8) (v := .int (gi q2.2 5)) (C := RX8) (T := TX8) (N := 14) hx hb hts hinX8 hown hK hP 0 rfl rfl 5 (by decide) (hts (.fieldLink RX8 29 "KneeBench$Tokens" "behind" "I") (List.mem_of_getElem? (i := 1) rfl)) (fun _ h9 => h9) rfl dX8_lookAtWord_3 ?_
      refine lv_aload_n hx hb dX8_lookAtWord_6 rfl (lv_at hl 0 rfl) ?_
      refine va_get (D := D) (ci := 8) (v := .int (gi q2.2 3)) (C := RX8) (T := TX8) (N := 14) hx hb hts hinX8 hown hK hP 0 rfl rfl 3 (by decide) (hts (.fieldLink RX8 23 "KneeBench$Tokens" "length" "I") (List.mem_of_getElem? (i := 2) rfl)) (fun _ h9 => h9) rfl dX8_lookAtWord_7 ?_
      refine lv_icmp_ge (tgt := 56) hx hb dX8_lookAtWord_10 (by decide) (fun c7 => ?_) (fun c7 => ?_)
      · replace h := (if_pos c7).symm.trans h
        have eo := hst _ (Option.some.inj h).symm
        subst eo
        exact kk56 H locs ls (lv_sub hl [0, 1] rfl) hP hD hS
      · replace h := (if_neg c7).symm.trans h
        refine lv_aload_n hx hb dX8_lookAtWord_13 rfl (lv_at hl 0 rfl) ?_
        refine va_get (D := D) (ci := 8) (v := .ref (a0 0)) (C := RX8) (T := TX8) (N := 14) hx hb hts hinX8 hown hK hP 0 rfl rfl 0 (by decide) (hts (.fieldLink RX8 9 "KneeBench$Tokens" "tape" "[B") (List.mem_of_getElem? (i := 3) rfl)) (fun _ h9 => h9) rfl dX8_lookAtWord_14 ?_
        refine lv_aload_n hx hb dX8_lookAtWord_17 rfl (lv_at hl 0 rfl) ?_
        refine va_get (D := D) (ci := 8) (v := .int (gi q2.2 5)) (C := RX8) (T := TX8) (N := 14) hx hb hts hinX8 hown hK hP 0 rfl rfl 5 (by decide) (hts (.fieldLink RX8 29 "KneeBench$Tokens" "behind" "I") (List.mem_of_getElem? (i := 1) rfl)) (fun _ h9 => h9) rfl dX8_lookAtWord_18 ?_
        obtain ⟨g8, h⟩ := gd_elim h
        refine va_bald hx hb hK hP 1 0 rfl rfl (inb_in g8) dX8_lookAtWord_21 ?_
        refine ca_i (w' := [WX8 cy h0 a0 q2.2]) (rn_S (As := [.int (ga q2.2 0 (gi q2.2 5).toNatClampNeg)]) (rest := []) ⟨hx, hb, hml, hown, hts⟩ (kX8_kindOf l D cy (ga q2.2 0 (gi q2.2 5).toNatClampNeg) _ rfl H.size) (va_cwS 1 hts gX8_lookAtWord_X8_kindOf rfl rfl rfl (by decide +kernel) ⟨Nat.le_of_ble_eq_true rfl, Nat.le_of_ble_eq_true rfl⟩) hK hN hP hD [] rfl rfl rfl hl.1 rfl (Nat.le_of_ble_eq_true rfl) dX8_lookAtWord_22 ⟨Nat.le_refl 0, Nat.le_refl 0⟩) hP hD hS hA [] ⟨rfl, rfl, rfl, rfl⟩ (fun H locs hP hD hS => ?_)
        refine lv_iconst (v := 1) hx hb dX8_lookAtWord_25 (by decide) ?_
        refine lv_icmp_ne (tgt := 56) hx hb dX8_lookAtWord_26 (by decide) (fun c9 => ?_) (fun c9 => ?_)
        · replace h := (if_neg c9).symm.trans h
          have eo := hst _ (Option.some.inj h).symm
          subst eo
          exact kk56 H locs ls (lv_sub hl [0, 1] rfl) hP hD hS
        · replace h := (if_pos c9).symm.trans h
          refine lv_lload_n hx hb dX8_lookAtWord_29 rfl (lv_at hl 1 rfl) ?_
          refine lv_aload_n hx hb dX8_lookAtWord_30 rfl (lv_at hl 0 rfl) ?_
          refine va_get (D := D) (ci := 8) (v := .ref (a0 0)) (C := RX8) (T := TX8) (N := 14) hx hb hts hinX8 hown hK hP 0 rfl rfl 0 (by decide) (hts (.fieldLink RX8 9 "KneeBench$Tokens" "tape" "[B") (List.mem_of_getElem? (i := 3) rfl)) (fun _ h9 => h9) rfl dX8_lookAtWord_31 ?_
          refine lv_aload_n hx hb dX8_lookAtWord_34 rfl (lv_at hl 0 rfl) ?_
          refine va_get (D := D) (ci := 8) (v := .int (gi q2.2 5)) (C := RX8) (T := TX8) (N := 14) hx hb hts hinX8 hown hK hP 0 rfl rfl 5 (by decide) (hts (.fieldLink RX8 29 "KneeBench$Tokens" "behind" "I") (List.mem_of_getElem? (i := 1) rfl)) (fun _ h9 => h9) rfl dX8_lookAtWord_35 ?_
          refine va_bald hx hb hK hP 1 0 rfl rfl (inb_in g8) dX8_lookAtWord_38 ?_
          refine ca_l (w' := [WX8 cy h0 a0 q2.2]) (rn_S (As := [.long q2.1, .int (ga q2.2 0 (gi q2.2 5).toNatClampNeg)]) (rest := []) ⟨hx, hb, hml, hown, hts⟩ (kX8_withLetter l D cy q2.1 (ga q2.2 0 (gi q2.2 5).toNatClampNeg) _ rfl H.size) (va_cwS 2 hts gX8_lookAtWord_X8_withLetter rfl rfl rfl (by decide +kernel) ⟨Nat.le_of_ble_eq_true rfl, Nat.le_of_ble_eq_true rfl⟩) hK hN hP hD [] rfl rfl rfl hl.1 rfl (Nat.le_of_ble_eq_true rfl) dX8_lookAtWord_39 ⟨Nat.le_refl 0, Nat.le_refl 0⟩) hP hD hS hA [] ⟨rfl, rfl, rfl, rfl⟩ (fun H locs hP hD hS => ?_)
          refine lv_topl (fun x10 ex10 => ?_)
          replace h := lt_use h x10 ex10
          refine lv_lstore_n (lv' := [(1, .long x10), (0, .ref h0)]) hx hb dX8_lookAtWord_42 rfl hl (by decide) rfl (fun ls hl => ?_)
          refine lv_aload_n hx hb dX8_lookAtWord_43 rfl (lv_at hl 1 rfl) ?_
          refine lv_dup hx hb dX8_lookAtWord_44 rfl ?_
          refine va_get (D := D) (ci := 8) (v := .int (gi q2.2 5)) (C := RX8) (T := TX8) (N := 14) hx hb hts hinX8 hown hK hP 0 rfl rfl 5 (by decide) (hts (.fieldLink RX8 29 "KneeBench$Tokens" "behind" "I") (List.mem_of_getElem? (i := 1) rfl)) (fun _ h9 => h9) rfl dX8_lookAtWord_45 ?_
          refine lv_iconst (v := 1) hx hb dX8_lookAtWord_48 (by decide) ?_
          refine lv_iadd hx hb dX8_lookAtWord_49 ?_
          obtain ⟨s0_11, es, h⟩ := lt_elim h
          refine va_put (D := D) (ci := 8) (v := .int ((gi q2.2 5) + (1 : Int32))) (ty := .int) (C := RX8) (T := TX8) (N := 14) hx hb hts hinX8 tyX8 tyX8_ok nmX8 hown hK hP hD hS 0 rfl rfl 5 (by decide) (hts (.fieldLink RX8 29 "KneeBench$Tokens" "behind" "I") (List.mem_of_getElem? (i := 1) rfl)) (fun _ h9 => h9) rfl (by decide +kernel) rfl rfl (Nat.le_of_ble_eq_true rfl) dX8_lookAtWord_50 (fun H locs hP hD hS => ?_)
          have hP : va_P D vwCl (flat [WX8 cy h0 a0 s0_11]) H := by rw [es]; exact hP
          have hD : va_D A (flat [WX8 cy h0 a0 s0_11]) := by rw [es]; exact hD
          clear es
          refine lv_goto (tgt := 2) hx hb dX8_lookAtWord_53 (by decide) ?_
          exact ih _ o (hgo _ (Option.some.inj h).symm) H locs ls (lv_sub hl [1, 0] rfl) hP hD hS kk56
  obtain ⟨o2, ho2, h⟩ := bd_elim h
  obtain ⟨n2, hn2⟩ := loopF_some ho2
  refine L2 n2 _ o2 hn2 H locs ls (lv_sub hl [1, 0] rfl) hP hD hS (fun H locs ls hl hP hD hS => ?_)
  exact J56 o2.1 o2.2 H locs ls (lv_sub hl [0, 1] rfl) hP hD hS h
theorem gd_X8_lookAtNumber : wsX8_lookAtNumber.all goodWord = true := by decide +kernel
set_option maxRecDepth 20000 in
theorem ggX8_lookAtNumber_X8_kindOf : GoodIn wsX8_lookAtNumber wsX8_kindOf := goodIn_by gd_X8_lookAtNumber (List.forall_mem_cons.mpr ⟨List.mem_cons_of_mem _ (List.mem_append_left _ (List.mem_of_getElem? (i := 8) rfl)), nowords_in⟩)
set_option maxRecDepth 20000 in
theorem gX8_lookAtNumber_X8_kindOf : GoodIn wsX8_lookAtNumber (va_wsS RX8 78 yX8_kindOf wsX8_kindOf) := goodIn_app (goodIn_by gd_X8_lookAtNumber (List.forall_mem_cons.mpr ⟨List.mem_cons_of_mem _ (List.mem_append_left _ (List.mem_of_getElem? (i := 5) rfl)), List.forall_mem_cons.mpr ⟨List.mem_cons_of_mem _ (List.mem_append_left _ (List.mem_of_getElem? (i := 6) rfl)), List.forall_mem_cons.mpr ⟨List.mem_cons_of_mem _ (List.mem_append_left _ (List.mem_of_getElem? (i := 7) rfl)), nowords_in⟩⟩⟩)) ggX8_lookAtNumber_X8_kindOf
theorem dX8_lookAtNumber_0 : decode cX8_lookAtNumber 0 = .ok (.aload_n 0, 1) := by decide +kernel
theorem dX8_lookAtNumber_1 : decode cX8_lookAtNumber 1 = .ok (.iconst 0, 1) := by decide +kernel
theorem dX8_lookAtNumber_2 : decode cX8_lookAtNumber 2 = .ok (.putfield 44, 3) := by decide +kernel
theorem dX8_lookAtNumber_5 : decode cX8_lookAtNumber 5 = .ok (.aload_n 0, 1) := by decide +kernel
theorem dX8_lookAtNumber_6 : decode cX8_lookAtNumber 6 = .ok (.getfield 29, 3) := by decide +kernel
theorem dX8_lookAtNumber_9 : decode cX8_lookAtNumber 9 = .ok (.aload_n 0, 1) := by decide +kernel
theorem dX8_lookAtNumber_10 : decode cX8_lookAtNumber 10 = .ok (.getfield 23, 3) := by decide +kernel
theorem dX8_lookAtNumber_13 : decode cX8_lookAtNumber 13 = .ok (.if_icmp .ge 69, 3) := by decide +kernel
theorem dX8_lookAtNumber_16 : decode cX8_lookAtNumber 16 = .ok (.aload_n 0, 1) := by decide +kernel
theorem dX8_lookAtNumber_17 : decode cX8_lookAtNumber 17 = .ok (.getfield 9, 3) := by decide +kernel
theorem dX8_lookAtNumber_20 : decode cX8_lookAtNumber 20 = .ok (.aload_n 0, 1) := by decide +kernel
theorem dX8_lookAtNumber_21 : decode cX8_lookAtNumber 21 = .ok (.getfield 29, 3) := by decide +kernel
theorem dX8_lookAtNumber_24 : decode cX8_lookAtNumber 24 = .ok (.baload, 1) := by decide +kernel
theorem dX8_lookAtNumber_25 : decode cX8_lookAtNumber 25 = .ok (.invokestatic 78, 3) := by decide +kernel
theorem dX8_lookAtNumber_28 : decode cX8_lookAtNumber 28 = .ok (.iconst 2, 1) := by decide +kernel
theorem dX8_lookAtNumber_29 : decode cX8_lookAtNumber 29 = .ok (.if_icmp .ne 53, 3) := by decide +kernel
theorem dX8_lookAtNumber_32 : decode cX8_lookAtNumber 32 = .ok (.aload_n 0, 1) := by decide +kernel
theorem dX8_lookAtNumber_33 : decode cX8_lookAtNumber 33 = .ok (.getfield 29, 3) := by decide +kernel
theorem dX8_lookAtNumber_36 : decode cX8_lookAtNumber 36 = .ok (.aload_n 0, 1) := by decide +kernel
theorem dX8_lookAtNumber_37 : decode cX8_lookAtNumber 37 = .ok (.getfield 26, 3) := by decide +kernel
theorem dX8_lookAtNumber_40 : decode cX8_lookAtNumber 40 = .ok (.isub, 1) := by decide +kernel
theorem dX8_lookAtNumber_41 : decode cX8_lookAtNumber 41 = .ok (.iconst 4, 1) := by decide +kernel
theorem dX8_lookAtNumber_42 : decode cX8_lookAtNumber 42 = .ok (.if_icmp .ge 27, 3) := by decide +kernel
theorem dX8_lookAtNumber_45 : decode cX8_lookAtNumber 45 = .ok (.aload_n 0, 1) := by decide +kernel
theorem dX8_lookAtNumber_46 : decode cX8_lookAtNumber 46 = .ok (.aload_n 0, 1) := by decide +kernel
theorem dX8_lookAtNumber_47 : decode cX8_lookAtNumber 47 = .ok (.getfield 44, 3) := by decide +kernel
theorem dX8_lookAtNumber_50 : decode cX8_lookAtNumber 50 = .ok (.bipush 10, 2) := by decide +kernel
theorem dX8_lookAtNumber_52 : decode cX8_lookAtNumber 52 = .ok (.imul, 1) := by decide +kernel
theorem dX8_lookAtNumber_53 : decode cX8_lookAtNumber 53 = .ok (.aload_n 0, 1) := by decide +kernel
theorem dX8_lookAtNumber_54 : decode cX8_lookAtNumber 54 = .ok (.getfield 9, 3) := by decide +kernel
theorem dX8_lookAtNumber_57 : decode cX8_lookAtNumber 57 = .ok (.aload_n 0, 1) := by decide +kernel
theorem dX8_lookAtNumber_58 : decode cX8_lookAtNumber 58 = .ok (.getfield 29, 3) := by decide +kernel
theorem dX8_lookAtNumber_61 : decode cX8_lookAtNumber 61 = .ok (.baload, 1) := by decide +kernel
theorem dX8_lookAtNumber_62 : decode cX8_lookAtNumber 62 = .ok (.iadd, 1) := by decide +kernel
theorem dX8_lookAtNumber_63 : decode cX8_lookAtNumber 63 = .ok (.bipush 48, 2) := by decide +kernel
theorem dX8_lookAtNumber_65 : decode cX8_lookAtNumber 65 = .ok (.isub, 1) := by decide +kernel
theorem dX8_lookAtNumber_66 : decode cX8_lookAtNumber 66 = .ok (.putfield 44, 3) := by decide +kernel
theorem dX8_lookAtNumber_69 : decode cX8_lookAtNumber 69 = .ok (.aload_n 0, 1) := by decide +kernel
theorem dX8_lookAtNumber_70 : decode cX8_lookAtNumber 70 = .ok (.dup, 1) := by decide +kernel
theorem dX8_lookAtNumber_71 : decode cX8_lookAtNumber 71 = .ok (.getfield 29, 3) := by decide +kernel
theorem dX8_lookAtNumber_74 : decode cX8_lookAtNumber 74 = .ok (.iconst 1, 1) := by decide +kernel
theorem dX8_lookAtNumber_75 : decode cX8_lookAtNumber 75 = .ok (.iadd, 1) := by decide +kernel
theorem dX8_lookAtNumber_76 : decode cX8_lookAtNumber 76 = .ok (.putfield 29, 3) := by decide +kernel
theorem dX8_lookAtNumber_79 : decode cX8_lookAtNumber 79 = .ok (.goto (-74), 3) := by decide +kernel
theorem dX8_lookAtNumber_82 : decode cX8_lookAtNumber 82 = .ok (.return_, 1) := by decide +kernel
abbrev rmX8_lookAtNumber : Room := { frames := 1, cells := 0, slots := 0, locals := 20 }
set_option maxHeartbeats 4000000 in
set_option maxRecDepth 100000 in
theorem kX8_lookAtNumber (l : Launch) (D : va_G) (cy : Nat → ClassId) (h0 : Nat) (a0 : Nat → Nat) (s0 : Rc) (res : Rc) (h : fX8_lookAtNumber s0 = some res) : CV l D cy yX8_lookAtNumber wsX8_lookAtNumber rmX8_lookAtNumber [.ref h0] (flat [WX8 cy h0 a0 s0]) (flat [WX8 cy h0 a0 res]) := by
  refine CV.of (cc := cX8_lookAtNumber) (maxL := 1) (by decide) rfl (Nat.le_of_ble_eq_true rfl) ?_
  intro p e s m args below meth c A QQ ls E hr
  obtain ⟨hx, hb, hml, hown, hts, hK, hN, hP, hD, hA, hl⟩ := E
  have hret : ∀ (pc : Nat) (H : Heap) (locs : List Loc) (ls : Array Slot) (u : Rc), u = res → va_P D vwCl (flat [WX8 cy h0 a0 u]) H → va_D A (flat [WX8 cy h0 a0 u]) → va_S A s.heap H locs → decode cX8_lookAtNumber pc = .ok (.return_, 1) → W p l e rmX8_lookAtNumber s m args below meth c H locs 0 0 QQ (F0 m pc ls []) := by
    intro pc H locs ls u hu hP hD hS hd; subst hu; exact hr pc H locs ls hP hD hS hd
  clear hr
  have hl : lv_has ls 1 [(0, .ref h0)] := hl
  have hinX8 : ∀ w ∈ wsX80, w ∈ wsX8_lookAtNumber := fun _ h => List.mem_cons_of_mem _ (List.mem_append_right _ h)
  unfold fX8_lookAtNumber at h
  suffices key : ∀ (H : Heap) (locs : List Loc), va_P D vwCl (flat [WX8 cy h0 a0 s0]) H → va_S A s.heap H locs → W p l e rmX8_lookAtNumber s m args below meth c H locs 0 0 QQ (F0 m 0 ls []) from key _ _ hP va_S.rf
  clear hP
  intro H locs hP hS
  refine lv_aload_n hx hb dX8_lookAtNumber_0 rfl (lv_at hl 0 rfl) ?_
  refine lv_iconst (v := 0) hx hb dX8_lookAtNumber_1 (by decide) ?_
  obtain ⟨s0_1, es, h⟩ := lt_elim h
  refine va_put (D := D) (ci := 8) (v := .int (0 : Int32)) (ty := .int) (C := RX8) (T := TX8) (N := 14) hx hb hts hinX8 tyX8 tyX8_ok nmX8 hown hK hP hD hS 0 rfl rfl 9 (by decide) (hts (.fieldLink RX8 44 "KneeBench$Tokens" "value" "I") (List.mem_of_getElem? (i := 1) rfl)) (fun _ h9 => h9) rfl (by decide +kernel) rfl rfl (Nat.le_of_ble_eq_true rfl) dX8_lookAtNumber_2 (fun H locs hP hD hS => ?_)
  have hP : va_P D vwCl (flat [WX8 cy h0 a0 s0_1]) H := by rw [es]; exact hP
  have hD : va_D A (flat [WX8 cy h0 a0 s0_1]) := by rw [es]; exact hD
  clear es
  have L5 : ∀ (n : Nat) (q5 : Rc) (o : Rc), loopO (fX8_lookAtNumber_L5) n q5 = some o → ∀ (H : Heap) (locs : List Loc) (ls : Array Slot), lv_has ls 1 [(0, .ref h0)] → va_P D vwCl (flat [WX8 cy h0 a0 q5]) H → va_D A (flat [WX8 cy h0 a0 q5]) → va_S A s.heap H locs → ∀ (kk82 : ∀ (H : Heap) (locs : List Loc) (ls : Array Slot), lv_has ls 1 [] → va_P D vwCl (flat [WX8 cy h0 a0 o]) H → va_D A (flat [WX8 cy h0 a0 o]) → va_S A s.heap H locs → W p l e rmX8_lookAtNumber s m args below meth c H locs 0 0 QQ (F0 m 82 ls [])), W p l e rmX8_lookAtNumber s m args below meth c H locs 0 0 QQ (F0 m 5 ls []) := by
    intro n
    induction n with
    | zero => intro q5 o h; exact absurd h (by rw [loopO_zero]; intro z; cases z)
    | succ n ih =>
      intro q5 o h H locs ls hl hP hD hS kk82
      obtain ⟨w, h, hgo, hst⟩ := loopO_elim h
      unfold fX8_lookAtNumber_L5 at h
      refine lv_aload_n hx hb dX8_lookAtNumber_5 rfl (lv_at hl 0 rfl) ?_
      refine va_get (D := D) (ci := 8) (v := .int (gi q5 5)) (C := RX8) (T := TX8) (N := 14) hx hb hts hinX8 hown hK hP 0 rfl rfl 5 (by decide) (hts (.fieldLink RX8 29 "KneeBench$Tokens" "behind" "I") (List.mem_of_getElem? (i := 2) rfl)) (fun _ h9 => h9) rfl dX8_lookAtNumber_6 ?_
      refine lv_aload_n hx hb dX8_lookAtNumber_9 rfl (lv_at hl 0 rfl) ?_
      refine va_get (D := D) (ci := 8) (v := .int (gi q5 3)) (C := RX8) (T := TX8) (N := 14) hx hb hts hinX8 hown hK hP 0 rfl rfl 3 (by decide) (hts (.fieldLink RX8 23 "KneeBench$Tokens" "length" "I") (List.mem_of_getElem? (i := 3) rfl)) (fun _ h9 => h9) rfl dX8_lookAtNumber_10 ?_
      refine lv_icmp_ge (tgt := 82) hx hb dX8_lookAtNumber_13 (by decide) (fun c2 => ?_) (fun c2 => ?_)
      · replace h := (if_pos c2).symm.trans h
        have eo := hst _ (Option.some.inj h).symm
        subst eo
        exact kk82 H locs ls (lv_sub hl [] rfl) hP hD hS
      · replace h := (if_neg c2).symm.trans h
        refine lv_aload_n hx hb dX8_lookAtNumber_16 rfl (lv_at hl 0 rfl) ?_
        refine va_get (D := D) (ci := 8) (v := .ref (a0 0)) (C := RX8) (T := TX8) (N := 14) hx hb hts hinX8 hown hK hP 0 rfl rfl 0 (by decide) (hts (.fieldLink RX8 9 "KneeBench$Tokens" "tape" "[B") (List.mem_of_getElem? (i := 4) rfl)) (fun _ h9 => h9) rfl dX8_lookAtNumber_17 ?_
        refine lv_aload_n hx hb dX8_lookAtNumber_20 rfl (lv_at hl 0 rfl) ?_
        refine va_get (D := D) (ci := 8) (v := .int (gi q5 5)) (C := RX8) (T := TX8) (N := 14) hx hb hts hinX8 hown hK hP 0 rfl rfl 5 (by decide) (hts (.fieldLink RX8 29 "KneeBench$Tokens" "behind" "I") (List.mem_of_getElem? (i := 2) rfl)) (fun _ h9 => h9) rfl dX8_lookAtNumber_21 ?_
        obtain ⟨g3, h⟩ := gd_elim h
        refine va_bald hx hb hK hP 1 0 rfl rfl (inb_in g3) dX8_lookAtNumber_24 ?_
        refine ca_i (w' := [WX8 cy h0 a0 q5]) (rn_S (As := [.int (ga q5 0 (gi q5 5).toNatClampNeg)]) (rest := []) ⟨hx, hb, hml, hown, hts⟩ (kX8_kindOf l D cy (ga q5 0 (gi q5 5).toNatClampNeg) _ rfl H.size) (va_cwS 1 hts gX8_lookAtNumber_X8_kindOf rfl rfl rfl (by decide +kernel) ⟨Nat.le_of_ble_eq_true rfl, Nat.le_of_ble_eq_true rfl⟩) hK hN hP hD [] rfl rfl rfl hl.1 rfl (Nat.le_of_ble_eq_true rfl) dX8_lookAtNumber_25 ⟨Nat.le_refl 0, Nat.le_refl 0⟩) hP hD hS hA [] ⟨rfl, rfl, rfl, rfl⟩ (fun H locs hP hD hS => ?_)
        refine lv_iconst (v := 2) hx hb dX8_lookAtNumber_28 (by decide) ?_
        refine lv_icmp_ne (tgt := 82) hx hb dX8_lookAtNumber_29 (by decide) (fun c4 => ?_) (fun c4 => ?_)
        · replace h := (if_neg c4).symm.trans h
          have eo := hst _ (Option.some.inj h).symm
          subst eo
          exact kk82 H locs ls (lv_sub hl [] rfl) hP hD hS
        · replace h := (if_pos c4).symm.trans h
          refine lv_aload_n hx hb dX8_lookAtNumber_32 rfl (lv_at hl 0 rfl) ?_
          refine va_get (D := D) (ci := 8) (v := .int (gi q5 5)) (C := RX8) (T := TX8) (N := 14) hx hb hts hinX8 hown hK hP 0 rfl rfl 5 (by decide) (hts (.fieldLink RX8 29 "KneeBench$Tokens" "behind" "I") (List.mem_of_getElem? (i := 2) rfl)) (fun _ h9 => h9) rfl dX8_lookAtNumber_33 ?_
          refine lv_aload_n hx hb dX8_lookAtNumber_36 rfl (lv_at hl 0 rfl) ?_
          refine va_get (D := D) (ci := 8) (v := .int (gi q5 4)) (C := RX8) (T := TX8) (N := 14) hx hb hts hinX8 hown hK hP 0 rfl rfl 4 (by decide) (hts (.fieldLink RX8 26 "KneeBench$Tokens" "place" "I") (List.mem_of_getElem? (i := 5) rfl)) (fun _ h9 => h9) rfl dX8_lookAtNumber_37 ?_
          refine lv_isub hx hb dX8_lookAtNumber_40 ?_
          refine lv_iconst (v := 4) hx hb dX8_lookAtNumber_41 (by decide) ?_
          refine lv_icmp_ge (tgt := 69) hx hb dX8_lookAtNumber_42 (by decide) (fun c5 => ?_) (fun c5 => ?_)
          · replace h := (if_pos c5).symm.trans h
            refine lv_aload_n hx hb dX8_lookAtNumber_69 rfl (lv_at hl 0 rfl) ?_
            refine lv_dup hx hb dX8_lookAtNumber_70 rfl ?_
            refine va_get (D := D) (ci := 8) (v := .int (gi q5 5)) (C := RX8) (T := TX8) (N := 14) hx hb hts hinX8 hown hK hP 0 rfl rfl 5 (by decide) (hts (.fieldLink RX8 29 "KneeBench$Tokens" "behind" "I") (List.mem_of_getElem? (i := 2) rfl)) (fun _ h9 => h9) rfl dX8_lookAtNumber_71 ?_
            refine lv_iconst (v := 1) hx hb dX8_lookAtNumber_74 (by decide) ?_
            refine lv_iadd hx hb dX8_lookAtNumber_75 ?_
            obtain ⟨s0_6, es, h⟩ := lt_elim h
            refine va_put (D := D) (ci := 8) (v := .int ((gi q5 5) + (1 : Int32))) (ty := .int) (C := RX8) (T := TX8) (N := 14) hx hb hts hinX8 tyX8 tyX8_ok nmX8 hown hK hP hD hS 0 rfl rfl 5 (by decide) (hts (.fieldLink RX8 29 "KneeBench$Tokens" "behind" "I") (List.mem_of_getElem? (i := 2) rfl)) (fun _ h9 => h9) rfl (by decide +kernel) rfl rfl (Nat.le_of_ble_eq_true rfl) dX8_lookAtNumber_76 (fun H locs hP hD hS => ?_)
            have hP : va_P D vwCl (flat [WX8 cy h0 a0 s0_6]) H := by rw [es]; exact hP
            have hD : va_D A (flat [WX8 cy h0 a0 s0_6]) := by rw [es]; exact hD
            clear es
            refine lv_goto (tgt := 5) hx hb dX8_lookAtNumber_79 (by decide) ?_
            exact ih _ o (hgo _ (Option.some.inj h).symm) H locs ls (lv_sub hl [0] rfl) hP hD hS kk82
          · replace h := (if_neg c5).symm.trans h
            refine lv_aload_n hx hb dX8_lookAtNumber_45 rfl (lv_at hl 0 rfl) ?_
            refine lv_aload_n hx hb dX8_lookAtNumber_46 rfl (lv_at hl 0 rfl) ?_
            refine va_get (D := D) (ci := 8) (v := .int (gi q5 9)) (C := RX8) (T := TX8) (N := 14) hx hb hts hinX8 hown hK hP 0 rfl rfl 9 (by decide) (hts (.fieldLink RX8 44 "KneeBench$Tokens" "value" "I") (List.mem_of_getElem? (i := 1) rfl)) (fun _ h9 => h9) rfl dX8_lookAtNumber_47 ?_
            refine lv_bipush (v := 10) hx hb dX8_lookAtNumber_50 (by decide) ?_
            refine lv_imul hx hb dX8_lookAtNumber_52 ?_
            refine lv_aload_n hx hb dX8_lookAtNumber_53 rfl (lv_at hl 0 rfl) ?_
            refine va_get (D := D) (ci := 8) (v := .ref (a0 0)) (C := RX8) (T := TX8) (N := 14) hx hb hts hinX8 hown hK hP 0 rfl rfl 0 (by decide) (hts (.fieldLink RX8 9 "KneeBench$Tokens" "tape" "[B") (List.mem_of_getElem? (i := 4) rfl)) (fun _ h9 => h9) rfl dX8_lookAtNumber_54 ?_
            refine lv_aload_n hx hb dX8_lookAtNumber_57 rfl (lv_at hl 0 rfl) ?_
            refine va_get (D := D) (ci := 8) (v := .int (gi q5 5)) (C := RX8) (T := TX8) (N := 14) hx hb hts hinX8 hown hK hP 0 rfl rfl 5 (by decide) (hts (.fieldLink RX8 29 "KneeBench$Tokens" "behind" "I") (List.mem_of_getElem? (i := 2) rfl)) (fun _ h9 => h9) rfl dX8_lookAtNumber_58 ?_
            refine va_bald hx hb hK hP 1 0 rfl rfl (inb_in g3) dX8_lookAtNumber_61 ?_
            refine lv_iadd hx hb dX8_lookAtNumber_62 ?_
            refine lv_bipush (v := 48) hx hb dX8_lookAtNumber_63 (by decide) ?_
            refine lv_isub hx hb dX8_lookAtNumber_65 ?_
            obtain ⟨s0_7, es, h⟩ := lt_elim h
            refine va_put (D := D) (ci := 8) (v := .int ((((gi q5 9) * (10 : Int32)) + (ga q5 0 (gi q5 5).toNatClampNeg)) - (48 : Int32))) (ty := .int) (C := RX8) (T := TX8) (N := 14) hx hb hts hinX8 tyX8 tyX8_ok nmX8 hown hK hP hD hS 0 rfl rfl 9 (by decide) (hts (.fieldLink RX8 44 "KneeBench$Tokens" "value" "I") (List.mem_of_getElem? (i := 1) rfl)) (fun _ h9 => h9) rfl (by decide +kernel) rfl rfl (Nat.le_of_ble_eq_true rfl) dX8_lookAtNumber_66 (fun H locs hP hD hS => ?_)
            have hP : va_P D vwCl (flat [WX8 cy h0 a0 s0_7]) H := by rw [es]; exact hP
            have hD : va_D A (flat [WX8 cy h0 a0 s0_7]) := by rw [es]; exact hD
            clear es
            refine lv_aload_n hx hb dX8_lookAtNumber_69 rfl (lv_at hl 0 rfl) ?_
            refine lv_dup hx hb dX8_lookAtNumber_70 rfl ?_
            refine va_get (D := D) (ci := 8) (v := .int (gi s0_7 5)) (C := RX8) (T := TX8) (N := 14) hx hb hts hinX8 hown hK hP 0 rfl rfl 5 (by decide) (hts (.fieldLink RX8 29 "KneeBench$Tokens" "behind" "I") (List.mem_of_getElem? (i := 2) rfl)) (fun _ h9 => h9) rfl dX8_lookAtNumber_71 ?_
            refine lv_iconst (v := 1) hx hb dX8_lookAtNumber_74 (by decide) ?_
            refine lv_iadd hx hb dX8_lookAtNumber_75 ?_
            obtain ⟨s0_8, es, h⟩ := lt_elim h
            refine va_put (D := D) (ci := 8) (v := .int ((gi s0_7 5) + (1 : Int32))) (ty := .int) (C := RX8) (T := TX8) (N := 14) hx hb hts hinX8 tyX8 tyX8_ok nmX8 hown hK hP hD hS 0 rfl rfl 5 (by decide) (hts (.fieldLink RX8 29 "KneeBench$Tokens" "behind" "I") (List.mem_of_getElem? (i := 2) rfl)) (fun _ h9 => h9) rfl (by decide +kernel) rfl rfl (Nat.le_of_ble_eq_true rfl) dX8_lookAtNumber_76 (fun H locs hP hD hS => ?_)
            have hP : va_P D vwCl (flat [WX8 cy h0 a0 s0_8]) H := by rw [es]; exact hP
            have hD : va_D A (flat [WX8 cy h0 a0 s0_8]) := by rw [es]; exact hD
            clear es
            refine lv_goto (tgt := 5) hx hb dX8_lookAtNumber_79 (by decide) ?_
            exact ih _ o (hgo _ (Option.some.inj h).symm) H locs ls (lv_sub hl [0] rfl) hP hD hS kk82
  obtain ⟨o5, ho5, h⟩ := bd_elim h
  obtain ⟨n5, hn5⟩ := loopF_some ho5
  refine L5 n5 _ o5 hn5 H locs ls (lv_sub hl [0] rfl) hP hD hS (fun H locs ls hl hP hD hS => ?_)
  exact hret 82 H locs ls o5 (Option.some.inj h) hP hD hS dX8_lookAtNumber_82
theorem dX8_fail_0 : decode cX8_fail 0 = .ok (.aload_n 0, 1) := by decide +kernel
theorem dX8_fail_1 : decode cX8_fail 1 = .ok (.iload_n 1, 1) := by decide +kernel
theorem dX8_fail_2 : decode cX8_fail 2 = .ok (.putfield 53, 3) := by decide +kernel
theorem dX8_fail_5 : decode cX8_fail 5 = .ok (.aload_n 0, 1) := by decide +kernel
theorem dX8_fail_6 : decode cX8_fail 6 = .ok (.aload_n 0, 1) := by decide +kernel
theorem dX8_fail_7 : decode cX8_fail 7 = .ok (.getfield 26, 3) := by decide +kernel
theorem dX8_fail_10 : decode cX8_fail 10 = .ok (.putfield 56, 3) := by decide +kernel
theorem dX8_fail_13 : decode cX8_fail 13 = .ok (.iconst 0, 1) := by decide +kernel
theorem dX8_fail_14 : decode cX8_fail 14 = .ok (.ireturn, 1) := by decide +kernel
abbrev rmX8_fail : Room := { frames := 0, cells := 0, slots := 0, locals := 0 }
set_option maxHeartbeats 4000000 in
set_option maxRecDepth 100000 in
theorem kX8_fail (l : Launch) (D : va_G) (cy : Nat → ClassId) (h0 : Nat) (a0 : Nat → Nat) (s0 : Rc) (p1 : Int32) (res : Int32 × Rc) (h : fX8_fail p1 s0 = res) : CZ l D cy yX8_fail wsX8_fail rmX8_fail [.ref h0, .int p1] (flat [WX8 cy h0 a0 s0]) (flat [WX8 cy h0 a0 res.2]) res.1 := by
  refine CZ.of (cc := cX8_fail) (maxL := 2) (by decide) rfl (Nat.le_of_ble_eq_true rfl) ?_
  intro p e s m args below meth c A QQ ls E hr
  obtain ⟨hx, hb, hml, hown, hts, hK, hN, hP, hD, hA, hl⟩ := E
  have hret : ∀ (pc : Nat) (H : Heap) (locs : List Loc) (ls : Array Slot) (u : Int32 × Rc), u = res → va_P D vwCl (flat [WX8 cy h0 a0 u.2]) H → va_D A (flat [WX8 cy h0 a0 u.2]) → va_S A s.heap H locs → isb u.1 = true → decode cX8_fail pc = .ok (.ireturn, 1) → W p l e rmX8_fail s m args below meth c H locs 0 0 QQ (F0 m pc ls [.int u.1]) := by
    intro pc H locs ls u hu hP hD hS hz hd; subst hu; exact hr pc H locs ls _ rfl hP hD hS hz hd
  clear hr
  have hl : lv_has ls 2 [(0, .ref h0), (1, .int p1)] := hl
  have hinX8 : ∀ w ∈ wsX80, w ∈ wsX8_fail := fun _ h => List.mem_cons_of_mem _ (List.mem_append_right _ h)
  unfold fX8_fail at h
  suffices key : ∀ (H : Heap) (locs : List Loc), va_P D vwCl (flat [WX8 cy h0 a0 s0]) H → va_S A s.heap H locs → W p l e rmX8_fail s m args below meth c H locs 0 0 QQ (F0 m 0 ls []) from key _ _ hP va_S.rf
  clear hP
  intro H locs hP hS
  refine lv_aload_n hx hb dX8_fail_0 rfl (lv_at hl 0 rfl) ?_
  refine lv_iload_n hx hb dX8_fail_1 rfl (lv_at hl 1 rfl) ?_
  obtain ⟨s0_1, es, h⟩ := lt_elim h
  refine va_put (D := D) (ci := 8) (v := .int p1) (ty := .int) (C := RX8) (T := TX8) (N := 14) hx hb hts hinX8 tyX8 tyX8_ok nmX8 hown hK hP hD hS 0 rfl rfl 12 (by decide) (hts (.fieldLink RX8 53 "KneeBench$Tokens" "fault" "I") (List.mem_of_getElem? (i := 1) rfl)) (fun _ h9 => h9) rfl (by decide +kernel) rfl rfl (Nat.le_of_ble_eq_true rfl) dX8_fail_2 (fun H locs hP hD hS => ?_)
  have hP : va_P D vwCl (flat [WX8 cy h0 a0 s0_1]) H := by rw [es]; exact hP
  have hD : va_D A (flat [WX8 cy h0 a0 s0_1]) := by rw [es]; exact hD
  clear es
  refine lv_aload_n hx hb dX8_fail_5 rfl (lv_at hl 0 rfl) ?_
  refine lv_aload_n hx hb dX8_fail_6 rfl (lv_at hl 0 rfl) ?_
  refine va_get (D := D) (ci := 8) (v := .int (gi s0_1 4)) (C := RX8) (T := TX8) (N := 14) hx hb hts hinX8 hown hK hP 0 rfl rfl 4 (by decide) (hts (.fieldLink RX8 26 "KneeBench$Tokens" "place" "I") (List.mem_of_getElem? (i := 2) rfl)) (fun _ h9 => h9) rfl dX8_fail_7 ?_
  obtain ⟨s0_2, es, h⟩ := lt_elim h
  refine va_put (D := D) (ci := 8) (v := .int (gi s0_1 4)) (ty := .int) (C := RX8) (T := TX8) (N := 14) hx hb hts hinX8 tyX8 tyX8_ok nmX8 hown hK hP hD hS 0 rfl rfl 13 (by decide) (hts (.fieldLink RX8 56 "KneeBench$Tokens" "faultPlace" "I") (List.mem_of_getElem? (i := 3) rfl)) (fun _ h9 => h9) rfl (by decide +kernel) rfl rfl (Nat.le_of_ble_eq_true rfl) dX8_fail_10 (fun H locs hP hD hS => ?_)
  have hP : va_P D vwCl (flat [WX8 cy h0 a0 s0_2]) H := by rw [es]; exact hP
  have hD : va_D A (flat [WX8 cy h0 a0 s0_2]) := by rw [es]; exact hD
  clear es
  refine lv_iconst (v := 0) hx hb dX8_fail_13 (by decide) ?_
  exact hret 14 H locs ls ((0 : Int32), s0_2) h hP hD hS (show isb (0 : Int32) = true by decide) dX8_fail_14
theorem gd_X8_advance : wsX8_advance.all goodWord = true := by decide +kernel
set_option maxRecDepth 20000 in
theorem ggX8_advance_X8_kindOf : GoodIn wsX8_advance wsX8_kindOf := goodIn_by gd_X8_advance (List.forall_mem_cons.mpr ⟨List.mem_cons_of_mem _ (List.mem_append_left _ (List.mem_append_left _ (List.mem_of_getElem? (i := 12) rfl))), nowords_in⟩)
set_option maxRecDepth 20000 in
theorem gX8_advance_X8_kindOf : GoodIn wsX8_advance (va_wsS RX8 78 yX8_kindOf wsX8_kindOf) := goodIn_app (goodIn_by gd_X8_advance (List.forall_mem_cons.mpr ⟨List.mem_cons_of_mem _ (List.mem_append_left _ (List.mem_append_left _ (List.mem_of_getElem? (i := 9) rfl))), List.forall_mem_cons.mpr ⟨List.mem_cons_of_mem _ (List.mem_append_left _ (List.mem_append_left _ (List.mem_of_getElem? (i := 10) rfl))), List.forall_mem_cons.mpr ⟨List.mem_cons_of_mem _ (List.mem_append_left _ (List.mem_append_left _ (List.mem_of_getElem? (i := 11) rfl))), nowords_in⟩⟩⟩)) ggX8_advance_X8_kindOf
set_option maxRecDepth 20000 in
theorem ggX8_advance_X8_lookAtWord : GoodIn wsX8_advance wsX8_lookAtWord := goodIn_by gd_X8_advance (List.forall_mem_cons.mpr ⟨List.mem_cons_of_mem _ (List.mem_append_left _ (List.mem_append_left _ (List.mem_of_getElem? (i := 16) rfl))), List.forall_mem_append.mpr ⟨List.forall_mem_cons.mpr ⟨List.mem_cons_of_mem _ (List.mem_append_left _ (List.mem_append_left _ (List.mem_of_getElem? (i := 0) rfl))), List.forall_mem_cons.mpr ⟨List.mem_cons_of_mem _ (List.mem_append_left _ (List.mem_append_left _ (List.mem_of_getElem? (i := 2) rfl))), List.forall_mem_cons.mpr ⟨List.mem_cons_of_mem _ (List.mem_append_left _ (List.mem_append_left _ (List.mem_of_getElem? (i := 3) rfl))), List.forall_mem_cons.mpr ⟨List.mem_cons_of_mem _ (List.mem_append_left _ (List.mem_append_left _ (List.mem_of_getElem? (i := 1) rfl))), List.forall_mem_cons.mpr ⟨List.mem_cons_of_mem _ (List.mem_append_left _ (List.mem_append_left _ (List.mem_of_getElem? (i := 6) rfl))), List.forall_mem_cons.mpr ⟨List.mem_cons_of_mem _ (List.mem_append_left _ (List.mem_append_left _ (List.mem_of_getElem? (i := 17) rfl))), List.forall_mem_cons.mpr ⟨List.mem_cons_of_mem _ (List.mem_append_left _ (List.mem_append_left _ (List.mem_of_getElem? (i := 7) rfl))), List.forall_mem_cons.mpr ⟨List.mem_cons_of_mem _ (List.mem_append_left _ (List.mem_append_left _ (List.mem_of_getElem? (i := 9) rfl))), List.forall_mem_cons.mpr ⟨List.mem_cons_of_mem _ (List.mem_append_left _ (List.mem_append_left _ (List.mem_of_getElem? (i := 10) rfl))), List.forall_mem_cons.mpr ⟨List.mem_cons_of_mem _ (List.mem_append_left _ (List.mem_append_left _ (List.mem_of_getElem? (i := 11) rfl))), List.forall_mem_cons.mpr ⟨List.mem_cons_of_mem _ (List.mem_append_left _ (List.mem_append_left _ (List.mem_of_getElem? (i := 12) rfl))), List.forall_mem_cons.mpr ⟨List.mem_cons_of_mem _ (List.mem_append_left _ (List.mem_append_left _ (List.mem_of_getElem? (i := 18) rfl))), List.forall_mem_cons.mpr ⟨List.mem_cons_of_mem _ (List.mem_append_left _ (List.mem_append_left _ (List.mem_of_getElem? (i := 19) rfl))), List.forall_mem_cons.mpr ⟨List.mem_cons_of_mem _ (List.mem_append_left _ (List.mem_append_left _ (List.mem_of_getElem? (i := 20) rfl))), nowords_in⟩⟩⟩⟩⟩⟩⟩⟩⟩⟩⟩⟩⟩⟩, (fun _ h => List.mem_cons_of_mem _ (List.mem_append_right _ (h)))⟩⟩)
set_option maxRecDepth 20000 in
theorem gX8_advance_X8_lookAtWord : GoodIn wsX8_advance (wsV RX8 82 RX8 yX8_lookAtWord wsX8_lookAtWord) := goodIn_app (goodIn_by gd_X8_advance (List.forall_mem_cons.mpr ⟨List.mem_cons_of_mem _ (List.mem_append_left _ (List.mem_append_left _ (List.mem_of_getElem? (i := 13) rfl))), List.forall_mem_cons.mpr ⟨List.mem_cons_of_mem _ (List.mem_append_left _ (List.mem_append_left _ (List.mem_of_getElem? (i := 14) rfl))), List.forall_mem_cons.mpr ⟨List.mem_cons_of_mem _ (List.mem_append_left _ (List.mem_append_left _ (List.mem_of_getElem? (i := 15) rfl))), List.forall_mem_cons.mpr ⟨List.mem_cons_of_mem _ (List.mem_append_left _ (List.mem_append_left _ (List.mem_of_getElem? (i := 11) rfl))), nowords_in⟩⟩⟩⟩)) ggX8_advance_X8_lookAtWord
set_option maxRecDepth 20000 in
theorem ggX8_advance_X8_lookAtNumber : GoodIn wsX8_advance wsX8_lookAtNumber := goodIn_by gd_X8_advance (List.forall_mem_cons.mpr ⟨List.mem_cons_of_mem _ (List.mem_append_left _ (List.mem_append_right _ (List.mem_of_getElem? (i := 0) rfl))), List.forall_mem_append.mpr ⟨List.forall_mem_cons.mpr ⟨List.mem_cons_of_mem _ (List.mem_append_left _ (List.mem_append_left _ (List.mem_of_getElem? (i := 8) rfl))), List.forall_mem_cons.mpr ⟨List.mem_cons_of_mem _ (List.mem_append_left _ (List.mem_append_left _ (List.mem_of_getElem? (i := 0) rfl))), List.forall_mem_cons.mpr ⟨List.mem_cons_of_mem _ (List.mem_append_left _ (List.mem_append_left _ (List.mem_of_getElem? (i := 2) rfl))), List.forall_mem_cons.mpr ⟨List.mem_cons_of_mem _ (List.mem_append_left _ (List.mem_append_left _ (List.mem_of_getElem? (i := 3) rfl))), List.forall_mem_cons.mpr ⟨List.mem_cons_of_mem _ (List.mem_append_left _ (List.mem_append_left _ (List.mem_of_getElem? (i := 1) rfl))), List.forall_mem_cons.mpr ⟨List.mem_cons_of_mem _ (List.mem_append_left _ (List.mem_append_left _ (List.mem_of_getElem? (i := 9) rfl))), List.forall_mem_cons.mpr ⟨List.mem_cons_of_mem _ (List.mem_append_left _ (List.mem_append_left _ (List.mem_of_getElem? (i := 10) rfl))), List.forall_mem_cons.mpr ⟨List.mem_cons_of_mem _ (List.mem_append_left _ (List.mem_append_left _ (List.mem_of_getElem? (i := 11) rfl))), List.forall_mem_cons.mpr ⟨List.mem_cons_of_mem _ (List.mem_append_left _ (List.mem_append_left _ (List.mem_of_getElem? (i := 12) rfl))), nowords_in⟩⟩⟩⟩⟩⟩⟩⟩⟩, (fun _ h => List.mem_cons_of_mem _ (List.mem_append_right _ (h)))⟩⟩)
set_option maxRecDepth 20000 in
theorem gX8_advance_X8_lookAtNumber : GoodIn wsX8_advance (wsV RX8 85 RX8 yX8_lookAtNumber wsX8_lookAtNumber) := goodIn_app (goodIn_by gd_X8_advance (List.forall_mem_cons.mpr ⟨List.mem_cons_of_mem _ (List.mem_append_left _ (List.mem_append_left _ (List.mem_of_getElem? (i := 21) rfl))), List.forall_mem_cons.mpr ⟨List.mem_cons_of_mem _ (List.mem_append_left _ (List.mem_append_left _ (List.mem_of_getElem? (i := 22) rfl))), List.forall_mem_cons.mpr ⟨List.mem_cons_of_mem _ (List.mem_append_left _ (List.mem_append_left _ (List.mem_of_getElem? (i := 23) rfl))), List.forall_mem_cons.mpr ⟨List.mem_cons_of_mem _ (List.mem_append_left _ (List.mem_append_left _ (List.mem_of_getElem? (i := 11) rfl))), nowords_in⟩⟩⟩⟩)) ggX8_advance_X8_lookAtNumber
set_option maxRecDepth 20000 in
theorem ggX8_advance_X8_fail : GoodIn wsX8_advance wsX8_fail := goodIn_by gd_X8_advance (List.forall_mem_cons.mpr ⟨List.mem_cons_of_mem _ (List.mem_append_left _ (List.mem_append_right _ (List.mem_of_getElem? (i := 4) rfl))), List.forall_mem_append.mpr ⟨List.forall_mem_cons.mpr ⟨List.mem_cons_of_mem _ (List.mem_append_left _ (List.mem_append_right _ (List.mem_of_getElem? (i := 5) rfl))), List.forall_mem_cons.mpr ⟨List.mem_cons_of_mem _ (List.mem_append_left _ (List.mem_append_left _ (List.mem_of_getElem? (i := 1) rfl))), List.forall_mem_cons.mpr ⟨List.mem_cons_of_mem _ (List.mem_append_left _ (List.mem_append_right _ (List.mem_of_getElem? (i := 6) rfl))), nowords_in⟩⟩⟩, (fun _ h => List.mem_cons_of_mem _ (List.mem_append_right _ (h)))⟩⟩)
set_option maxRecDepth 20000 in
theorem gX8_advance_X8_fail : GoodIn wsX8_advance (wsV RX8 88 RX8 yX8_fail wsX8_fail) := goodIn_app (goodIn_by gd_X8_advance (List.forall_mem_cons.mpr ⟨List.mem_cons_of_mem _ (List.mem_append_left _ (List.mem_append_right _ (List.mem_of_getElem? (i := 1) rfl))), List.forall_mem_cons.mpr ⟨List.mem_cons_of_mem _ (List.mem_append_left _ (List.mem_append_right _ (List.mem_of_getElem? (i := 2) rfl))), List.forall_mem_cons.mpr ⟨List.mem_cons_of_mem _ (List.mem_append_left _ (List.mem_append_right _ (List.mem_of_getElem? (i := 3) rfl))), List.forall_mem_cons.mpr ⟨List.mem_cons_of_mem _ (List.mem_append_left _ (List.mem_append_left _ (List.mem_of_getElem? (i := 11) rfl))), nowords_in⟩⟩⟩⟩)) ggX8_advance_X8_fail
theorem dX8_advance_0 : decode cX8_advance 0 = .ok (.aload_n 0, 1) := by decide +kernel
theorem dX8_advance_1 : decode cX8_advance 1 = .ok (.aload_n 0, 1) := by decide +kernel
theorem dX8_advance_2 : decode cX8_advance 2 = .ok (.getfield 29, 3) := by decide +kernel
theorem dX8_advance_5 : decode cX8_advance 5 = .ok (.putfield 26, 3) := by decide +kernel
theorem dX8_advance_8 : decode cX8_advance 8 = .ok (.aload_n 0, 1) := by decide +kernel
theorem dX8_advance_9 : decode cX8_advance 9 = .ok (.getfield 26, 3) := by decide +kernel
theorem dX8_advance_12 : decode cX8_advance 12 = .ok (.aload_n 0, 1) := by decide +kernel
theorem dX8_advance_13 : decode cX8_advance 13 = .ok (.getfield 23, 3) := by decide +kernel
theorem dX8_advance_16 : decode cX8_advance 16 = .ok (.if_icmp .ge 32, 3) := by decide +kernel
theorem dX8_advance_19 : decode cX8_advance 19 = .ok (.aload_n 0, 1) := by decide +kernel
theorem dX8_advance_20 : decode cX8_advance 20 = .ok (.getfield 9, 3) := by decide +kernel
theorem dX8_advance_23 : decode cX8_advance 23 = .ok (.aload_n 0, 1) := by decide +kernel
theorem dX8_advance_24 : decode cX8_advance 24 = .ok (.getfield 26, 3) := by decide +kernel
theorem dX8_advance_27 : decode cX8_advance 27 = .ok (.baload, 1) := by decide +kernel
theorem dX8_advance_28 : decode cX8_advance 28 = .ok (.invokestatic 78, 3) := by decide +kernel
theorem dX8_advance_31 : decode cX8_advance 31 = .ok (.iconst 4, 1) := by decide +kernel
theorem dX8_advance_32 : decode cX8_advance 32 = .ok (.if_icmp .ne 16, 3) := by decide +kernel
theorem dX8_advance_35 : decode cX8_advance 35 = .ok (.aload_n 0, 1) := by decide +kernel
theorem dX8_advance_36 : decode cX8_advance 36 = .ok (.dup, 1) := by decide +kernel
theorem dX8_advance_37 : decode cX8_advance 37 = .ok (.getfield 26, 3) := by decide +kernel
theorem dX8_advance_40 : decode cX8_advance 40 = .ok (.iconst 1, 1) := by decide +kernel
theorem dX8_advance_41 : decode cX8_advance 41 = .ok (.iadd, 1) := by decide +kernel
theorem dX8_advance_42 : decode cX8_advance 42 = .ok (.putfield 26, 3) := by decide +kernel
theorem dX8_advance_45 : decode cX8_advance 45 = .ok (.goto (-37), 3) := by decide +kernel
theorem dX8_advance_48 : decode cX8_advance 48 = .ok (.aload_n 0, 1) := by decide +kernel
theorem dX8_advance_49 : decode cX8_advance 49 = .ok (.aload_n 0, 1) := by decide +kernel
theorem dX8_advance_50 : decode cX8_advance 50 = .ok (.getfield 26, 3) := by decide +kernel
theorem dX8_advance_53 : decode cX8_advance 53 = .ok (.aload_n 0, 1) := by decide +kernel
theorem dX8_advance_54 : decode cX8_advance 54 = .ok (.getfield 23, 3) := by decide +kernel
theorem dX8_advance_57 : decode cX8_advance 57 = .ok (.if_icmp .ge 18, 3) := by decide +kernel
theorem dX8_advance_60 : decode cX8_advance 60 = .ok (.aload_n 0, 1) := by decide +kernel
theorem dX8_advance_61 : decode cX8_advance 61 = .ok (.getfield 9, 3) := by decide +kernel
theorem dX8_advance_64 : decode cX8_advance 64 = .ok (.aload_n 0, 1) := by decide +kernel
theorem dX8_advance_65 : decode cX8_advance 65 = .ok (.getfield 26, 3) := by decide +kernel
theorem dX8_advance_68 : decode cX8_advance 68 = .ok (.baload, 1) := by decide +kernel
theorem dX8_advance_69 : decode cX8_advance 69 = .ok (.invokestatic 78, 3) := by decide +kernel
theorem dX8_advance_72 : decode cX8_advance 72 = .ok (.goto 4, 3) := by decide +kernel
theorem dX8_advance_75 : decode cX8_advance 75 = .ok (.iconst 0, 1) := by decide +kernel
theorem dX8_advance_76 : decode cX8_advance 76 = .ok (.putfield 32, 3) := by decide +kernel
theorem dX8_advance_79 : decode cX8_advance 79 = .ok (.aload_n 0, 1) := by decide +kernel
theorem dX8_advance_80 : decode cX8_advance 80 = .ok (.aload_n 0, 1) := by decide +kernel
theorem dX8_advance_81 : decode cX8_advance 81 = .ok (.getfield 26, 3) := by decide +kernel
theorem dX8_advance_84 : decode cX8_advance 84 = .ok (.putfield 29, 3) := by decide +kernel
theorem dX8_advance_87 : decode cX8_advance 87 = .ok (.aload_n 0, 1) := by decide +kernel
theorem dX8_advance_88 : decode cX8_advance 88 = .ok (.ldc2_w 35, 3) := by decide +kernel
theorem dX8_advance_91 : decode cX8_advance 91 = .ok (.putfield 37, 3) := by decide +kernel
theorem dX8_advance_94 : decode cX8_advance 94 = .ok (.aload_n 0, 1) := by decide +kernel
theorem dX8_advance_95 : decode cX8_advance 95 = .ok (.iconst (-1), 1) := by decide +kernel
theorem dX8_advance_96 : decode cX8_advance 96 = .ok (.putfield 41, 3) := by decide +kernel
theorem dX8_advance_99 : decode cX8_advance 99 = .ok (.aload_n 0, 1) := by decide +kernel
theorem dX8_advance_100 : decode cX8_advance 100 = .ok (.getfield 32, 3) := by decide +kernel
theorem dX8_advance_103 : decode cX8_advance 103 = .ok (.tableswitch 93 0 3 #[91, 29, 35, 66], 29) := by decide +kernel
theorem dX8_advance_132 : decode cX8_advance 132 = .ok (.aload_n 0, 1) := by decide +kernel
theorem dX8_advance_133 : decode cX8_advance 133 = .ok (.invokevirtual 82, 3) := by decide +kernel
theorem dX8_advance_136 : decode cX8_advance 136 = .ok (.iconst 1, 1) := by decide +kernel
theorem dX8_advance_137 : decode cX8_advance 137 = .ok (.ireturn, 1) := by decide +kernel
theorem dX8_advance_138 : decode cX8_advance 138 = .ok (.aload_n 0, 1) := by decide +kernel
theorem dX8_advance_139 : decode cX8_advance 139 = .ok (.invokevirtual 85, 3) := by decide +kernel
theorem dX8_advance_142 : decode cX8_advance 142 = .ok (.aload_n 0, 1) := by decide +kernel
theorem dX8_advance_143 : decode cX8_advance 143 = .ok (.getfield 29, 3) := by decide +kernel
theorem dX8_advance_146 : decode cX8_advance 146 = .ok (.aload_n 0, 1) := by decide +kernel
theorem dX8_advance_147 : decode cX8_advance 147 = .ok (.getfield 26, 3) := by decide +kernel
theorem dX8_advance_150 : decode cX8_advance 150 = .ok (.isub, 1) := by decide +kernel
theorem dX8_advance_151 : decode cX8_advance 151 = .ok (.iconst 4, 1) := by decide +kernel
theorem dX8_advance_152 : decode cX8_advance 152 = .ok (.if_icmp .le 11, 3) := by decide +kernel
theorem dX8_advance_155 : decode cX8_advance 155 = .ok (.aload_n 0, 1) := by decide +kernel
theorem dX8_advance_156 : decode cX8_advance 156 = .ok (.iconst 1, 1) := by decide +kernel
theorem dX8_advance_157 : decode cX8_advance 157 = .ok (.invokevirtual 88, 3) := by decide +kernel
theorem dX8_advance_160 : decode cX8_advance 160 = .ok (.ifCond .eq 7, 3) := by decide +kernel
theorem dX8_advance_163 : decode cX8_advance 163 = .ok (.iconst 1, 1) := by decide +kernel
theorem dX8_advance_164 : decode cX8_advance 164 = .ok (.goto 4, 3) := by decide +kernel
theorem dX8_advance_167 : decode cX8_advance 167 = .ok (.iconst 0, 1) := by decide +kernel
theorem dX8_advance_168 : decode cX8_advance 168 = .ok (.ireturn, 1) := by decide +kernel
theorem dX8_advance_169 : decode cX8_advance 169 = .ok (.aload_n 0, 1) := by decide +kernel
theorem dX8_advance_170 : decode cX8_advance 170 = .ok (.aload_n 0, 1) := by decide +kernel
theorem dX8_advance_171 : decode cX8_advance 171 = .ok (.getfield 9, 3) := by decide +kernel
theorem dX8_advance_174 : decode cX8_advance 174 = .ok (.aload_n 0, 1) := by decide +kernel
theorem dX8_advance_175 : decode cX8_advance 175 = .ok (.getfield 26, 3) := by decide +kernel
theorem dX8_advance_178 : decode cX8_advance 178 = .ok (.baload, 1) := by decide +kernel
theorem dX8_advance_179 : decode cX8_advance 179 = .ok (.putfield 44, 3) := by decide +kernel
theorem dX8_advance_182 : decode cX8_advance 182 = .ok (.aload_n 0, 1) := by decide +kernel
theorem dX8_advance_183 : decode cX8_advance 183 = .ok (.dup, 1) := by decide +kernel
theorem dX8_advance_184 : decode cX8_advance 184 = .ok (.getfield 29, 3) := by decide +kernel
theorem dX8_advance_187 : decode cX8_advance 187 = .ok (.iconst 1, 1) := by decide +kernel
theorem dX8_advance_188 : decode cX8_advance 188 = .ok (.iadd, 1) := by decide +kernel
theorem dX8_advance_189 : decode cX8_advance 189 = .ok (.putfield 29, 3) := by decide +kernel
theorem dX8_advance_192 : decode cX8_advance 192 = .ok (.iconst 1, 1) := by decide +kernel
theorem dX8_advance_193 : decode cX8_advance 193 = .ok (.ireturn, 1) := by decide +kernel
theorem dX8_advance_194 : decode cX8_advance 194 = .ok (.iconst 1, 1) := by decide +kernel
theorem dX8_advance_195 : decode cX8_advance 195 = .ok (.ireturn, 1) := by decide +kernel
theorem dX8_advance_196 : decode cX8_advance 196 = .ok (.aload_n 0, 1) := by decide +kernel
theorem dX8_advance_197 : decode cX8_advance 197 = .ok (.iconst 1, 1) := by decide +kernel
theorem dX8_advance_198 : decode cX8_advance 198 = .ok (.invokevirtual 88, 3) := by decide +kernel
theorem dX8_advance_201 : decode cX8_advance 201 = .ok (.ireturn, 1) := by decide +kernel
abbrev rmX8_advance : Room := { frames := 2, cells := 0, slots := 0, locals := 45 }
set_option maxHeartbeats 4000000 in
set_option maxRecDepth 100000 in
theorem kX8_advance (l : Launch) (D : va_G) (cy : Nat → ClassId) (h0 : Nat) (a0 : Nat → Nat) (s0 : Rc) (res : Int32 × Rc) (h : fX8_advance s0 = some res) : CZ l D cy yX8_advance wsX8_advance rmX8_advance [.ref h0] (flat [WX8 cy h0 a0 s0]) (flat [WX8 cy h0 a0 res.2]) res.1 := by
  refine CZ.of (cc := cX8_advance) (maxL := 1) (by decide) rfl (Nat.le_of_ble_eq_true rfl) ?_
  intro p e s m args below meth c A QQ ls E hr
  obtain ⟨hx, hb, hml, hown, hts, hK, hN, hP, hD, hA, hl⟩ := E
  have hret : ∀ (pc : Nat) (H : Heap) (locs : List Loc) (ls : Array Slot) (u : Int32 × Rc), u = res → va_P D vwCl (flat [WX8 cy h0 a0 u.2]) H → va_D A (flat [WX8 cy h0 a0 u.2]) → va_S A s.heap H locs → isb u.1 = true → decode cX8_advance pc = .ok (.ireturn, 1) → W p l e rmX8_advance s m args below meth c H locs 0 0 QQ (F0 m pc ls [.int u.1]) := by
    intro pc H locs ls u hu hP hD hS hz hd; subst hu; exact hr pc H locs ls _ rfl hP hD hS hz hd
  clear hr
  have hl : lv_has ls 1 [(0, .ref h0)] := hl
  have hinX8 : ∀ w ∈ wsX80, w ∈ wsX8_advance := fun _ h => List.mem_cons_of_mem _ (List.mem_append_right _ h)
  unfold fX8_advance at h
  suffices key : ∀ (H : Heap) (locs : List Loc), va_P D vwCl (flat [WX8 cy h0 a0 s0]) H → va_S A s.heap H locs → W p l e rmX8_advance s m args below meth c H locs 0 0 QQ (F0 m 0 ls []) from key _ _ hP va_S.rf
  clear hP
  intro H locs hP hS
  have J76 : ∀ (z76_0 : Int32) (t76_0 : Rc) (H : Heap) (locs : List Loc) (ls : Array Slot), lv_has ls 1 [(0, .ref h0)] → va_P D vwCl (flat [WX8 cy h0 a0 t76_0]) H → va_D A (flat [WX8 cy h0 a0 t76_0]) → va_S A s.heap H locs → fX8_advance_J76 z76_0 t76_0 = some res → W p l e rmX8_advance s m args below meth c H locs 0 0 QQ (F0 m 76 ls [.int z76_0, .ref h0]) := by
    intro z76_0 t76_0 H locs ls hl hP hD hS h
    unfold fX8_advance_J76 at h
    obtain ⟨s0_1, es, h⟩ := lt_elim h
    refine va_put (D := D) (ci := 8) (v := .int z76_0) (ty := .int) (C := RX8) (T := TX8) (N := 14) hx hb hts hinX8 tyX8 tyX8_ok nmX8 hown hK hP hD hS 0 rfl rfl 6 (by decide) (hts (.fieldLink RX8 32 "KneeBench$Tokens" "kind" "I") (List.mem_of_getElem? (i := 5) rfl)) (fun _ h9 => h9) rfl (by decide +kernel) rfl rfl (Nat.le_of_ble_eq_true rfl) dX8_advance_76 (fun H locs hP hD hS => ?_)
    have hP : va_P D vwCl (flat [WX8 cy h0 a0 s0_1]) H := by rw [es]; exact hP
    have hD : va_D A (flat [WX8 cy h0 a0 s0_1]) := by rw [es]; exact hD
    clear es
    refine lv_aload_n hx hb dX8_advance_79 rfl (lv_at hl 0 rfl) ?_
    refine lv_aload_n hx hb dX8_advance_80 rfl (lv_at hl 0 rfl) ?_
    refine va_get (D := D) (ci := 8) (v := .int (gi s0_1 4)) (C := RX8) (T := TX8) (N := 14) hx hb hts hinX8 hown hK hP 0 rfl rfl 4 (by decide) (hts (.fieldLink RX8 26 "KneeBench$Tokens" "place" "I") (List.mem_of_getElem? (i := 2) rfl)) (fun _ h9 => h9) rfl dX8_advance_81 ?_
    obtain ⟨s0_2, es, h⟩ := lt_elim h
    refine va_put (D := D) (ci := 8) (v := .int (gi s0_1 4)) (ty := .int) (C := RX8) (T := TX8) (N := 14) hx hb hts hinX8 tyX8 tyX8_ok nmX8 hown hK hP hD hS 0 rfl rfl 5 (by decide) (hts (.fieldLink RX8 29 "KneeBench$Tokens" "behind" "I") (List.mem_of_getElem? (i := 1) rfl)) (fun _ h9 => h9) rfl (by decide +kernel) rfl rfl (Nat.le_of_ble_eq_true rfl) dX8_advance_84 (fun H locs hP hD hS => ?_)
    have hP : va_P D vwCl (flat [WX8 cy h0 a0 s0_2]) H := by rw [es]; exact hP
    have hD : va_D A (flat [WX8 cy h0 a0 s0_2]) := by rw [es]; exact hD
    clear es
    refine lv_aload_n hx hb dX8_advance_87 rfl (lv_at hl 0 rfl) ?_
    refine lv_ldc2 (v := -1) hx hb hown (hts (.constantLong RX8 35 (-1)) (List.mem_of_getElem? (i := 6) rfl)) dX8_advance_88 ?_
    obtain ⟨s0_3, es, h⟩ := lt_elim h
    refine va_put (D := D) (ci := 8) (v := .long (-1 : Int64)) (ty := .long) (C := RX8) (T := TX8) (N := 14) hx hb hts hinX8 tyX8 tyX8_ok nmX8 hown hK hP hD hS 0 rfl rfl 7 (by decide) (hts (.fieldLink RX8 37 "KneeBench$Tokens" "word" "J") (List.mem_of_getElem? (i := 7) rfl)) (fun _ h9 => h9) rfl (by decide +kernel) rfl rfl (Nat.le_of_ble_eq_true rfl) dX8_advance_91 (fun H locs hP hD hS => ?_)
    have hP : va_P D vwCl (flat [WX8 cy h0 a0 s0_3]) H := by rw [es]; exact hP
    have hD : va_D A (flat [WX8 cy h0 a0 s0_3]) := by rw [es]; exact hD
    clear es
    refine lv_aload_n hx hb dX8_advance_94 rfl (lv_at hl 0 rfl) ?_
    refine lv_iconst (v := -1) hx hb dX8_advance_95 (by decide) ?_
    obtain ⟨s0_4, es, h⟩ := lt_elim h
    refine va_put (D := D) (ci := 8) (v := .int (-1 : Int32)) (ty := .int) (C := RX8) (T := TX8) (N := 14) hx hb hts hinX8 tyX8 tyX8_ok nmX8 hown hK hP hD hS 0 rfl rfl 8 (by decide) (hts (.fieldLink RX8 41 "KneeBench$Tokens" "keyword" "I") (List.mem_of_getElem? (i := 8) rfl)) (fun _ h9 => h9) rfl (by decide +kernel) rfl rfl (Nat.le_of_ble_eq_true rfl) dX8_advance_96 (fun H locs hP hD hS => ?_)
    have hP : va_P D vwCl (flat [WX8 cy h0 a0 s0_4]) H := by rw [es]; exact hP
    have hD : va_D A (flat [WX8 cy h0 a0 s0_4]) := by rw [es]; exact hD
    clear es
    refine lv_aload_n hx hb dX8_advance_99 rfl (lv_at hl 0 rfl) ?_
    refine va_get (D := D) (ci := 8) (v := .int (gi s0_4 6)) (C := RX8) (T := TX8) (N := 14) hx hb hts hinX8 hown hK hP 0 rfl rfl 6 (by decide) (hts (.fieldLink RX8 32 "KneeBench$Tokens" "kind" "I") (List.mem_of_getElem? (i := 5) rfl)) (fun _ h9 => h9) rfl dX8_advance_100 ?_
    by_cases c5 : (gi s0_4 6) = (0 : Int32)
    · replace h := (if_pos c5).symm.trans h
      refine lv_tableIn (tgt := 194) hx hb dX8_advance_103 (by rw [c5]; decide) (by rw [c5]; decide) (by rw [c5]; rfl) (by decide) ?_
      refine lv_iconst (v := 1) hx hb dX8_advance_194 (by decide) ?_
      exact hret 195 H locs ls ((1 : Int32), s0_4) (Option.some.inj h) hP hD hS (show isb (1 : Int32) = true by decide) dX8_advance_195
    replace h := (if_neg c5).symm.trans h
    by_cases c6 : (gi s0_4 6) = (1 : Int32)
    · replace h := (if_pos c6).symm.trans h
      refine lv_tableIn (tgt := 132) hx hb dX8_advance_103 (by rw [c6]; decide) (by rw [c6]; decide) (by rw [c6]; rfl) (by decide) ?_
      refine lv_aload_n hx hb dX8_advance_132 rfl (lv_at hl 0 rfl) ?_
      obtain ⟨r7, hr7, h⟩ := bd_elim h
      refine ca_v (w' := [WX8 cy h0 a0 r7]) (rn_V (As := []) (rest := []) ⟨hx, hb, hml, hown, hts⟩ (kX8_lookAtWord l D cy h0 a0 s0_4 r7 hr7 H.size) (cwV 0 hts gX8_advance_X8_lookAtWord rfl rfl rfl (by decide +kernel) ⟨Nat.le_of_ble_eq_true rfl, Nat.le_of_ble_eq_true rfl⟩) hK hN hP hD [0] rfl rfl (ci := 8) (q0 := 0) rfl rfl rfl rfl hl.1 rfl (Nat.le_of_ble_eq_true rfl) dX8_advance_133 ⟨Nat.le_refl 0, Nat.le_refl 0⟩) hP hD hS hA [0] ⟨rfl, rfl, rfl, rfl⟩ (fun H locs hP hD hS => ?_)
      refine lv_iconst (v := 1) hx hb dX8_advance_136 (by decide) ?_
      exact hret 137 H locs ls ((1 : Int32), r7) (Option.some.inj h) hP hD hS (show isb (1 : Int32) = true by decide) dX8_advance_137
    replace h := (if_neg c6).symm.trans h
    by_cases c8 : (gi s0_4 6) = (2 : Int32)
    · replace h := (if_pos c8).symm.trans h
      refine lv_tableIn (tgt := 138) hx hb dX8_advance_103 (by rw [c8]; decide) (by rw [c8]; decide) (by rw [c8]; rfl) (by decide) ?_
      refine lv_aload_n hx hb dX8_advance_138 rfl (lv_at hl 0 rfl) ?_
      obtain ⟨r9, hr9, h⟩ := bd_elim h
      refine ca_v (w' := [WX8 cy h0 a0 r9]) (rn_V (As := []) (rest := []) ⟨hx, hb, hml, hown, hts⟩ (kX8_lookAtNumber l D cy h0 a0 s0_4 r9 hr9 H.size) (cwV 0 hts gX8_advance_X8_lookAtNumber rfl rfl rfl (by decide +kernel) ⟨Nat.le_of_ble_eq_true rfl, Nat.le_of_ble_eq_true rfl⟩) hK hN hP hD [0] rfl rfl (ci := 8) (q0 := 0) rfl rfl rfl rfl hl.1 rfl (Nat.le_of_ble_eq_true rfl) dX8_advance_139 ⟨Nat.le_refl 0, Nat.le_refl 0⟩) hP hD hS hA [0] ⟨rfl, rfl, rfl, rfl⟩ (fun H locs hP hD hS => ?_)
      refine lv_aload_n hx hb dX8_advance_142 rfl (lv_at hl 0 rfl) ?_
      refine va_get (D := D) (ci := 8) (v := .int (gi r9 5)) (C := RX8) (T := TX8) (N := 14) hx hb hts hinX8 hown hK hP 0 rfl rfl 5 (by decide) (hts (.fieldLink RX8 29 "KneeBench$Tokens" "behind" "I") (List.mem_of_getElem? (i := 1) rfl)) (fun _ h9 => h9) rfl dX8_advance_143 ?_
      refine lv_aload_n hx hb dX8_advance_146 rfl (lv_at hl 0 rfl) ?_
      refine va_get (D := D) (ci := 8) (v := .int (gi r9 4)) (C := RX8) (T := TX8) (N := 14) hx hb hts hinX8 hown hK hP 0 rfl rfl 4 (by decide) (hts (.fieldLink RX8 26 "KneeBench$Tokens" "place" "I") (List.mem_of_getElem? (i := 2) rfl)) (fun _ h9 => h9) rfl dX8_advance_147 ?_
      refine lv_isub hx hb dX8_advance_150 ?_
      refine lv_iconst (v := 4) hx hb dX8_advance_151 (by decide) ?_
      refine lv_icmp_le (tgt := 163) hx hb dX8_advance_152 (by decide) (fun c10 => ?_) (fun c10 => ?_)
      · replace h := (if_pos c10).symm.trans h
        refine lv_iconst (v := 1) hx hb dX8_advance_163 (by decide) ?_
        refine lv_goto (tgt := 168) hx hb dX8_advance_164 (by decide) ?_
        exact hret 168 H locs ls ((1 : Int32), r9) (Option.some.inj h) hP hD hS (show isb (1 : Int32) = true by decide) dX8_advance_168
      · replace h := (if_neg c10).symm.trans h
        refine lv_aload_n hx hb dX8_advance_155 rfl (lv_at hl 0 rfl) ?_
        refine lv_iconst (v := 1) hx hb dX8_advance_156 (by decide) ?_
        obtain ⟨r11, hr11, h⟩ := lt_elim h
        refine ca_z (w' := [WX8 cy h0 a0 r11.2]) (rn_V (As := [.int (1 : Int32)]) (rest := []) ⟨hx, hb, hml, hown, hts⟩ (kX8_fail l D cy h0 a0 r9 (1 : Int32) r11 hr11.symm H.size) (cwV 1 hts gX8_advance_X8_fail rfl rfl rfl (by decide +kernel) ⟨Nat.le_of_ble_eq_true rfl, Nat.le_of_ble_eq_true rfl⟩) hK hN hP hD [0] rfl rfl (ci := 8) (q0 := 0) rfl rfl rfl rfl hl.1 rfl (Nat.le_of_ble_eq_true rfl) dX8_advance_157 ⟨Nat.le_refl 0, Nat.le_refl 0⟩) hP hD hS hA [0] ⟨rfl, rfl, rfl, rfl⟩ (fun b12 H locs hP hD hS => ?_)
        refine lv_if_eq (tgt := 167) hx hb dX8_advance_160 (by decide) (fun c13 => ?_) (fun c13 => ?_)
        · replace h := (if_pos c13).symm.trans h
          refine lv_iconst (v := 0) hx hb dX8_advance_167 (by decide) ?_
          exact hret 168 H locs ls ((0 : Int32), r11.2) (Option.some.inj h) hP hD hS (show isb (0 : Int32) = true by decide) dX8_advance_168
        · replace h := (if_neg c13).symm.trans h
          refine lv_iconst (v := 1) hx hb dX8_advance_163 (by decide) ?_
          refine lv_goto (tgt := 168) hx hb dX8_advance_164 (by decide) ?_
          exact hret 168 H locs ls ((1 : Int32), r11.2) (Option.some.inj h) hP hD hS (show isb (1 : Int32) = true by decide) dX8_advance_168
    replace h := (if_neg c8).symm.trans h
    by_cases c14 : (gi s0_4 6) = (3 : Int32)
    · replace h := (if_pos c14).symm.trans h
      refine lv_tableIn (tgt := 169) hx hb dX8_advance_103 (by rw [c14]; decide) (by rw [c14]; decide) (by rw [c14]; rfl) (by decide) ?_
      refine lv_aload_n hx hb dX8_advance_169 rfl (lv_at hl 0 rfl) ?_
      refine lv_aload_n hx hb dX8_advance_170 rfl (lv_at hl 0 rfl) ?_
      refine va_get (D := D) (ci := 8) (v := .ref (a0 0)) (C := RX8) (T := TX8) (N := 14) hx hb hts hinX8 hown hK hP 0 rfl rfl 0 (by decide) (hts (.fieldLink RX8 9 "KneeBench$Tokens" "tape" "[B") (List.mem_of_getElem? (i := 4) rfl)) (fun _ h9 => h9) rfl dX8_advance_171 ?_
      refine lv_aload_n hx hb dX8_advance_174 rfl (lv_at hl 0 rfl) ?_
      refine va_get (D := D) (ci := 8) (v := .int (gi s0_4 4)) (C := RX8) (T := TX8) (N := 14) hx hb hts hinX8 hown hK hP 0 rfl rfl 4 (by decide) (hts (.fieldLink RX8 26 "KneeBench$Tokens" "place" "I") (List.mem_of_getElem? (i := 2) rfl)) (fun _ h9 => h9) rfl dX8_advance_175 ?_
      obtain ⟨g15, h⟩ := gd_elim h
      refine va_bald hx hb hK hP 1 0 rfl rfl (inb_in g15) dX8_advance_178 ?_
      obtain ⟨s0_16, es, h⟩ := lt_elim h
      refine va_put (D := D) (ci := 8) (v := .int (ga s0_4 0 (gi s0_4 4).toNatClampNeg)) (ty := .int) (C := RX8) (T := TX8) (N := 14) hx hb hts hinX8 tyX8 tyX8_ok nmX8 hown hK hP hD hS 0 rfl rfl 9 (by decide) (hts (.fieldLink RX8 44 "KneeBench$Tokens" "value" "I") (List.mem_of_getElem? (i := 9) rfl)) (fun _ h9 => h9) rfl (by decide +kernel) rfl rfl (Nat.le_of_ble_eq_true rfl) dX8_advance_179 (fun H locs hP hD hS => ?_)
      have hP : va_P D vwCl (flat [WX8 cy h0 a0 s0_16]) H := by rw [es]; exact hP
      have hD : va_D A (flat [WX8 cy h0 a0 s0_16]) := by rw [es]; exact hD
      clear es
      refine lv_aload_n hx hb dX8_advance_182 rfl (lv_at hl 0 rfl) ?_
      refine lv_dup hx hb dX8_advance_183 rfl ?_
      refine va_get (D := D) (ci := 8) (v := .int (gi s0_16 5)) (C := RX8) (T := TX8) (N := 14) hx hb hts hinX8 hown hK hP 0 rfl rfl 5 (by decide) (hts (.fieldLink RX8 29 "KneeBench$Tokens" "behind" "I") (List.mem_of_getElem? (i := 1) rfl)) (fun _ h9 => h9) rfl dX8_advance_184 ?_
      refine lv_iconst (v := 1) hx hb dX8_advance_187 (by decide) ?_
      refine lv_iadd hx hb dX8_advance_188 ?_
      obtain ⟨s0_17, es, h⟩ := lt_elim h
      refine va_put (D := D) (ci := 8) (v := .int ((gi s0_16 5) + (1 : Int32))) (ty := .int) (C := RX8) (T := TX8) (N := 14) hx hb hts hinX8 tyX8 tyX8_ok nmX8 hown hK hP hD hS 0 rfl rfl 5 (by decide) (hts (.fieldLink RX8 29 "KneeBench$Tokens" "behind" "I") (List.mem_of_getElem? (i := 1) rfl)) (fun _ h9 => h9) rfl (by decide +kernel) rfl rfl (Nat.le_of_ble_eq_true rfl) dX8_advance_189 (fun H locs hP hD hS => ?_)
      have hP : va_P D vwCl (flat [WX8 cy h0 a0 s0_17]) H := by rw [es]; exact hP
      have hD : va_D A (flat [WX8 cy h0 a0 s0_17]) := by rw [es]; exact hD
      clear es
      refine lv_iconst (v := 1) hx hb dX8_advance_192 (by decide) ?_
      exact hret 193 H locs ls ((1 : Int32), s0_17) (Option.some.inj h) hP hD hS (show isb (1 : Int32) = true by decide) dX8_advance_193
    replace h := (if_neg c14).symm.trans h
    have ic5 : (gi s0_4 6).toInt ≠ 0 := fun z => c5 (Int32.toInt_inj.mp (z.trans (by decide)))
    have ic6 : (gi s0_4 6).toInt ≠ 1 := fun z => c6 (Int32.toInt_inj.mp (z.trans (by decide)))
    have ic8 : (gi s0_4 6).toInt ≠ 2 := fun z => c8 (Int32.toInt_inj.mp (z.trans (by decide)))
    have ic14 : (gi s0_4 6).toInt ≠ 3 := fun z => c14 (Int32.toInt_inj.mp (z.trans (by decide)))
    have hsw : (gi s0_4 6).toInt < 0 ∨ 3 < (gi s0_4 6).toInt := by omega
    refine lv_tdf (tgt := 196) hx hb dX8_advance_103 ?_ (by decide) ?_
    · rcases hsw with z | z
      · exact Or.inl z
      · exact Or.inr (Or.inl z)
    refine lv_aload_n hx hb dX8_advance_196 rfl (lv_at hl 0 rfl) ?_
    refine lv_iconst (v := 1) hx hb dX8_advance_197 (by decide) ?_
    obtain ⟨r18, hr18, h⟩ := lt_elim h
    refine ca_z (w' := [WX8 cy h0 a0 r18.2]) (rn_V (As := [.int (1 : Int32)]) (rest := []) ⟨hx, hb, hml, hown, hts⟩ (kX8_fail l D cy h0 a0 s0_4 (1 : Int32) r18 hr18.symm H.size) (cwV 1 hts gX8_advance_X8_fail rfl rfl rfl (by decide +kernel) ⟨Nat.le_of_ble_eq_true rfl, Nat.le_of_ble_eq_true rfl⟩) hK hN hP hD [0] rfl rfl (ci := 8) (q0 := 0) rfl rfl rfl rfl hl.1 rfl (Nat.le_of_ble_eq_true rfl) dX8_advance_198 ⟨Nat.le_refl 0, Nat.le_refl 0⟩) hP hD hS hA [0] ⟨rfl, rfl, rfl, rfl⟩ (fun b19 H locs hP hD hS => ?_)
    exact hret 201 H locs ls (r18.1, r18.2) (Option.some.inj h) hP hD hS b19 dX8_advance_201
  have J48 : ∀ (t48_0 : Rc) (H : Heap) (locs : List Loc) (ls : Array Slot), lv_has ls 1 [(0, .ref h0)] → va_P D vwCl (flat [WX8 cy h0 a0 t48_0]) H → va_D A (flat [WX8 cy h0 a0 t48_0]) → va_S A s.heap H locs → fX8_advance_J48 t48_0 = some res → W p l e rmX8_advance s m args below meth c H locs 0 0 QQ (F0 m 48 ls []) := by
    intro t48_0 H locs ls hl hP hD hS h
    unfold fX8_advance_J48 at h
    refine lv_aload_n hx hb dX8_advance_48 rfl (lv_at hl 0 rfl) ?_
    refine lv_aload_n hx hb dX8_advance_49 rfl (lv_at hl 0 rfl) ?_
    refine va_get (D := D) (ci := 8) (v := .int (gi t48_0 4)) (C := RX8) (T := TX8) (N := 14) hx hb hts hinX8 hown hK hP 0 rfl rfl 4 (by decide) (hts (.fieldLink RX8 26 "KneeBench$Tokens" "place" "I") (List.mem_of_getElem? (i := 2) rfl)) (fun _ h9 => h9) rfl dX8_advance_50 ?_
    refine lv_aload_n hx hb dX8_advance_53 rfl (lv_at hl 0 rfl) ?_
    refine va_get (D := D) (ci := 8) (v := .int (gi t48_0 3)) (C := RX8) (T := TX8) (N := 14) hx hb hts hinX8 hown hK hP 0 rfl rfl 3 (by decide) (hts (.fieldLink RX8 23 "KneeBench$Tokens" "length" "I") (List.mem_of_getElem? (i := 3) rfl)) (fun _ h9 => h9) rfl dX8_advance_54 ?_
    refine lv_icmp_ge (tgt := 75) hx hb dX8_advance_57 (by decide) (fun c20 => ?_) (fun c20 => ?_)
    · replace h := (if_pos c20).symm.trans h
      refine lv_iconst (v := 0) hx hb dX8_advance_75 (by decide) ?_
      exact J76 (0 : Int32) t48_0 H locs ls (lv_sub hl [0] rfl) hP hD hS h
    · replace h := (if_neg c20).symm.trans h
      refine lv_aload_n hx hb dX8_advance_60 rfl (lv_at hl 0 rfl) ?_
      refine va_get (D := D) (ci := 8) (v := .ref (a0 0)) (C := RX8) (T := TX8) (N := 14) hx hb hts hinX8 hown hK hP 0 rfl rfl 0 (by decide) (hts (.fieldLink RX8 9 "KneeBench$Tokens" "tape" "[B") (List.mem_of_getElem? (i := 4) rfl)) (fun _ h9 => h9) rfl dX8_advance_61 ?_
      refine lv_aload_n hx hb dX8_advance_64 rfl (lv_at hl 0 rfl) ?_
      refine va_get (D := D) (ci := 8) (v := .int (gi t48_0 4)) (C := RX8) (T := TX8) (N := 14) hx hb hts hinX8 hown hK hP 0 rfl rfl 4 (by decide) (hts (.fieldLink RX8 26 "KneeBench$Tokens" "place" "I") (List.mem_of_getElem? (i := 2) rfl)) (fun _ h9 => h9) rfl dX8_advance_65 ?_
      obtain ⟨g21, h⟩ := gd_elim h
      refine va_bald hx hb hK hP 1 0 rfl rfl (inb_in g21) dX8_advance_68 ?_
      refine ca_i (w' := [WX8 cy h0 a0 t48_0]) (rn_S (As := [.int (ga t48_0 0 (gi t48_0 4).toNatClampNeg)]) (rest := [.ref h0]) ⟨hx, hb, hml, hown, hts⟩ (kX8_kindOf l D cy (ga t48_0 0 (gi t48_0 4).toNatClampNeg) _ rfl H.size) (va_cwS 1 hts gX8_advance_X8_kindOf rfl rfl rfl (by decide +kernel) ⟨Nat.le_of_ble_eq_true rfl, Nat.le_of_ble_eq_true rfl⟩) hK hN hP hD [] rfl rfl rfl hl.1 rfl (Nat.le_of_ble_eq_true rfl) dX8_advance_69 ⟨Nat.le_refl 0, Nat.le_refl 0⟩) hP hD hS hA [] ⟨rfl, rfl, rfl, rfl⟩ (fun H locs hP hD hS => ?_)
      refine lv_goto (tgt := 76) hx hb dX8_advance_72 (by decide) ?_
      exact J76 (fX8_kindOf (ga t48_0 0 (gi t48_0 4).toNatClampNeg)) t48_0 H locs ls (lv_sub hl [0] rfl) hP hD hS h
  refine lv_aload_n hx hb dX8_advance_0 rfl (lv_at hl 0 rfl) ?_
  refine lv_aload_n hx hb dX8_advance_1 rfl (lv_at hl 0 rfl) ?_
  refine va_get (D := D) (ci := 8) (v := .int (gi s0 5)) (C := RX8) (T := TX8) (N := 14) hx hb hts hinX8 hown hK hP 0 rfl rfl 5 (by decide) (hts (.fieldLink RX8 29 "KneeBench$Tokens" "behind" "I") (List.mem_of_getElem? (i := 1) rfl)) (fun _ h9 => h9) rfl dX8_advance_2 ?_
  obtain ⟨s0_22, es, h⟩ := lt_elim h
  refine va_put (D := D) (ci := 8) (v := .int (gi s0 5)) (ty := .int) (C := RX8) (T := TX8) (N := 14) hx hb hts hinX8 tyX8 tyX8_ok nmX8 hown hK hP hD hS 0 rfl rfl 4 (by decide) (hts (.fieldLink RX8 26 "KneeBench$Tokens" "place" "I") (List.mem_of_getElem? (i := 2) rfl)) (fun _ h9 => h9) rfl (by decide +kernel) rfl rfl (Nat.le_of_ble_eq_true rfl) dX8_advance_5 (fun H locs hP hD hS => ?_)
  have hP : va_P D vwCl (flat [WX8 cy h0 a0 s0_22]) H := by rw [es]; exact hP
  have hD : va_D A (flat [WX8 cy h0 a0 s0_22]) := by rw [es]; exact hD
  clear es
  have L8 : ∀ (n : Nat) (q8 : Rc) (o : Rc), loopO (fX8_advance_L8) n q8 = some o → ∀ (H : Heap) (locs : List Loc) (ls : Array Slot), lv_has ls 1 [(0, .ref h0)] → va_P D vwCl (flat [WX8 cy h0 a0 q8]) H → va_D A (flat [WX8 cy h0 a0 q8]) → va_S A s.heap H locs → ∀ (kk48 : ∀ (H : Heap) (locs : List Loc) (ls : Array Slot), lv_has ls 1 [(0, .ref h0)] → va_P D vwCl (flat [WX8 cy h0 a0 o]) H → va_D A (flat [WX8 cy h0 a0 o]) → va_S A s.heap H locs → W p l e rmX8_advance s m args below meth c H locs 0 0 QQ (F0 m 48 ls [])), W p l e rmX8_advance s m args below meth c H locs 0 0 QQ (F0 m 8 ls []) := by
    intro n
    induction n with
    | zero => intro q8 o h; exact absurd h (by rw [loopO_zero]; intro z; cases z)
    | succ n ih =>
      intro q8 o h H locs ls hl hP hD hS kk48
      obtain ⟨w, h, hgo, hst⟩ := loopO_elim h
      unfold fX8_advance_L8 at h
      refine lv_aload_n hx hb dX8_advance_8 rfl (lv_at hl 0 rfl) ?_
      refine va_get (D := D) (ci := 8) (v := .int (gi q8 4)) (C := RX8) (T := TX8) (N := 14) hx hb hts hinX8 hown hK hP 0 rfl rfl 4 (by decide) (hts (.fieldLink RX8 26 "KneeBench$Tokens" "place" "I") (List.mem_of_getElem? (i := 2) rfl)) (fun _ h9 => h9) rfl dX8_advance_9 ?_
      refine lv_aload_n hx hb dX8_advance_12 rfl (lv_at hl 0 rfl) ?_
      refine va_get (D := D) (ci := 8) (v := .int (gi q8 3)) (C := RX8) (T := TX8) (N := 14) hx hb hts hinX8 hown hK hP 0 rfl rfl 3 (by decide) (hts (.fieldLink RX8 23 "KneeBench$Tokens" "length" "I") (List.mem_of_getElem? (i := 3) rfl)) (fun _ h9 => h9) rfl dX8_advance_13 ?_
      refine lv_icmp_ge (tgt := 48) hx hb dX8_advance_16 (by decide) (fun c23 => ?_) (fun c23 => ?_)
      · replace h := (if_pos c23).symm.trans h
        have eo := hst _ (Option.some.inj h).symm
        subst eo
        exact kk48 H locs ls (lv_sub hl [0] rfl) hP hD hS
      · replace h := (if_neg c23).symm.trans h
        refine lv_aload_n hx hb dX8_advance_19 rfl (lv_at hl 0 rfl) ?_
        refine va_get (D := D) (ci := 8) (v := .ref (a0 0)) (C := RX8) (T := TX8) (N := 14) hx hb hts hinX8 hown hK hP 0 rfl rfl 0 (by decide) (hts (.fieldLink RX8 9 "KneeBench$Tokens" "tape" "[B") (List.mem_of_getElem? (i := 4) rfl)) (fun _ h9 => h9) rfl dX8_advance_20 ?_
        refine lv_aload_n hx hb dX8_advance_23 rfl (lv_at hl 0 rfl) ?_
        refine va_get (D := D) (ci := 8) (v := .int (gi q8 4)) (C := RX8) (T := TX8) (N := 14) hx hb hts hinX8 hown hK hP 0 rfl rfl 4 (by decide) (hts (.fieldLink RX8 26 "KneeBench$Tokens" "place" "I") (List.mem_of_getElem? (i := 2) rfl)) (fun _ h9 => h9) rfl dX8_advance_24 ?_
        obtain ⟨g24, h⟩ := gd_elim h
        refine va_bald hx hb hK hP 1 0 rfl rfl (inb_in g24) dX8_advance_27 ?_
        refine ca_i (w' := [WX8 cy h0 a0 q8]) (rn_S (As := [.int (ga q8 0 (gi q8 4).toNatClampNeg)]) (rest := []) ⟨hx, hb, hml, hown, hts⟩ (kX8_kindOf l D cy (ga q8 0 (gi q8 4).toNatClampNeg) _ rfl H.size) (va_cwS 1 hts gX8_advance_X8_kindOf rfl rfl rfl (by decide +kernel) ⟨Nat.le_of_ble_eq_true rfl, Nat.le_of_ble_eq_true rfl⟩) hK hN hP hD [] rfl rfl rfl hl.1 rfl (Nat.le_of_ble_eq_true rfl) dX8_advance_28 ⟨Nat.le_refl 0, Nat.le_refl 0⟩) hP hD hS hA [] ⟨rfl, rfl, rfl, rfl⟩ (fun H locs hP hD hS => ?_)
        refine lv_iconst (v := 4) hx hb dX8_advance_31 (by decide) ?_
        refine lv_icmp_ne (tgt := 48) hx hb dX8_advance_32 (by decide) (fun c25 => ?_) (fun c25 => ?_)
        · replace h := (if_neg c25).symm.trans h
          have eo := hst _ (Option.some.inj h).symm
          subst eo
          exact kk48 H locs ls (lv_sub hl [0] rfl) hP hD hS
        · replace h := (if_pos c25).symm.trans h
          refine lv_aload_n hx hb dX8_advance_35 rfl (lv_at hl 0 rfl) ?_
          refine lv_dup hx hb dX8_advance_36 rfl ?_
          refine va_get (D := D) (ci := 8) (v := .int (gi q8 4)) (C := RX8) (T := TX8) (N := 14) hx hb hts hinX8 hown hK hP 0 rfl rfl 4 (by decide) (hts (.fieldLink RX8 26 "KneeBench$Tokens" "place" "I") (List.mem_of_getElem? (i := 2) rfl)) (fun _ h9 => h9) rfl dX8_advance_37 ?_
          refine lv_iconst (v := 1) hx hb dX8_advance_40 (by decide) ?_
          refine lv_iadd hx hb dX8_advance_41 ?_
          obtain ⟨s0_26, es, h⟩ := lt_elim h
          refine va_put (D := D) (ci := 8) (v := .int ((gi q8 4) + (1 : Int32))) (ty := .int) (C := RX8) (T := TX8) (N := 14) hx hb hts hinX8 tyX8 tyX8_ok nmX8 hown hK hP hD hS 0 rfl rfl 4 (by decide) (hts (.fieldLink RX8 26 "KneeBench$Tokens" "place" "I") (List.mem_of_getElem? (i := 2) rfl)) (fun _ h9 => h9) rfl (by decide +kernel) rfl rfl (Nat.le_of_ble_eq_true rfl) dX8_advance_42 (fun H locs hP hD hS => ?_)
          have hP : va_P D vwCl (flat [WX8 cy h0 a0 s0_26]) H := by rw [es]; exact hP
          have hD : va_D A (flat [WX8 cy h0 a0 s0_26]) := by rw [es]; exact hD
          clear es
          refine lv_goto (tgt := 8) hx hb dX8_advance_45 (by decide) ?_
          exact ih _ o (hgo _ (Option.some.inj h).symm) H locs ls (lv_sub hl [0] rfl) hP hD hS kk48
  obtain ⟨o8, ho8, h⟩ := bd_elim h
  obtain ⟨n8, hn8⟩ := loopF_some ho8
  refine L8 n8 _ o8 hn8 H locs ls (lv_sub hl [0] rfl) hP hD hS (fun H locs ls hl hP hD hS => ?_)
  exact J48 o8 H locs ls (lv_sub hl [0] rfl) hP hD hS h
theorem gd_X8_begin : wsX8_begin.all goodWord = true := by decide +kernel
set_option maxRecDepth 20000 in
theorem ggX8_begin_X8_advance : GoodIn wsX8_begin wsX8_advance := goodIn_by gd_X8_begin (List.forall_mem_cons.mpr ⟨List.mem_cons_of_mem _ (List.mem_append_left _ (List.mem_append_left _ (List.mem_of_getElem? (i := 8) rfl))), List.forall_mem_append.mpr ⟨List.forall_mem_append.mpr ⟨List.forall_mem_cons.mpr ⟨List.mem_cons_of_mem _ (List.mem_append_left _ (List.mem_append_left _ (List.mem_of_getElem? (i := 1) rfl))), List.forall_mem_cons.mpr ⟨List.mem_cons_of_mem _ (List.mem_append_left _ (List.mem_append_left _ (List.mem_of_getElem? (i := 9) rfl))), List.forall_mem_cons.mpr ⟨List.mem_cons_of_mem _ (List.mem_append_left _ (List.mem_append_left _ (List.mem_of_getElem? (i := 0) rfl))), List.forall_mem_cons.mpr ⟨List.mem_cons_of_mem _ (List.mem_append_left _ (List.mem_append_left _ (List.mem_of_getElem? (i := 10) rfl))), List.forall_mem_cons.mpr ⟨List.mem_cons_of_mem _ (List.mem_append_left _ (List.mem_append_left _ (List.mem_of_getElem? (i := 11) rfl))), List.forall_mem_cons.mpr ⟨List.mem_cons_of_mem _ (List.mem_append_left _ (List.mem_append_left _ (List.mem_of_getElem? (i := 12) rfl))), List.forall_mem_cons.mpr ⟨List.mem_cons_of_mem _ (List.mem_append_left _ (List.mem_append_left _ (List.mem_of_getElem? (i := 13) rfl))), List.forall_mem_cons.mpr ⟨List.mem_cons_of_mem _ (List.mem_append_left _ (List.mem_append_left _ (List.mem_of_getElem? (i := 14) rfl))), List.forall_mem_cons.mpr ⟨List.mem_cons_of_mem _ (List.mem_append_left _ (List.mem_append_left _ (List.mem_of_getElem? (i := 15) rfl))), List.forall_mem_cons.mpr ⟨List.mem_cons_of_mem _ (List.mem_append_left _ (List.mem_append_left _ (List.mem_of_getElem? (i := 16) rfl))), List.forall_mem_cons.mpr ⟨List.mem_cons_of_mem _ (List.mem_append_left _ (List.mem_append_left _ (List.mem_of_getElem? (i := 17) rfl))), List.forall_mem_cons.mpr ⟨List.mem_cons_of_mem _ (List.mem_append_left _ (List.mem_append_left _ (List.mem_of_getElem? (i := 7) rfl))), List.forall_mem_cons.mpr ⟨List.mem_cons_of_mem _ (List.mem_append_left _ (List.mem_append_left _ (List.mem_of_getElem? (i := 18) rfl))), List.forall_mem_cons.mpr ⟨List.mem_cons_of_mem _ (List.mem_append_left _ (List.mem_append_left _ (List.mem_of_getElem? (i := 19) rfl))), List.forall_mem_cons.mpr ⟨List.mem_cons_of_mem _ (List.mem_append_left _ (List.mem_append_left _ (List.mem_of_getElem? (i := 20) rfl))), List.forall_mem_cons.mpr ⟨List.mem_cons_of_mem _ (List.mem_append_left _ (List.mem_append_left _ (List.mem_of_getElem? (i := 21) rfl))), List.forall_mem_cons.mpr ⟨List.mem_cons_of_mem _ (List.mem_append_left _ (List.mem_append_left _ (List.mem_of_getElem? (i := 22) rfl))), List.forall_mem_cons.mpr ⟨List.mem_cons_of_mem _ (List.mem_append_left _ (List.mem_append_left _ (List.mem_of_getElem? (i := 23) rfl))), List.forall_mem_cons.mpr ⟨List.mem_cons_of_mem _ (List.mem_append_left _ (List.mem_append_right _ (List.mem_of_getElem? (i := 0) rfl))), List.forall_mem_cons.mpr ⟨List.mem_cons_of_mem _ (List.mem_append_left _ (List.mem_append_right _ (List.mem_of_getElem? (i := 1) rfl))), List.forall_mem_cons.mpr ⟨List.mem_cons_of_mem _ (List.mem_append_left _ (List.mem_append_right _ (List.mem_of_getElem? (i := 2) rfl))), List.forall_mem_cons.mpr ⟨List.mem_cons_of_mem _ (List.mem_append_left _ (List.mem_append_right _ (List.mem_of_getElem? (i := 3) rfl))), List.forall_mem_cons.mpr ⟨List.mem_cons_of_mem _ (List.mem_append_left _ (List.mem_append_right _ (List.mem_of_getElem? (i := 4) rfl))), List.forall_mem_cons.mpr ⟨List.mem_cons_of_mem _ (List.mem_append_left _ (List.mem_append_right _ (List.mem_of_getElem? (i := 5) rfl))), nowords_in⟩⟩⟩⟩⟩⟩⟩⟩⟩⟩⟩⟩⟩⟩⟩⟩⟩⟩⟩⟩⟩⟩⟩⟩, List.forall_mem_cons.mpr ⟨List.mem_cons_of_mem _ (List.mem_append_left _ (List.mem_append_right _ (List.mem_of_getElem? (i := 6) rfl))), List.forall_mem_cons.mpr ⟨List.mem_cons_of_mem _ (List.mem_append_left _ (List.mem_append_right _ (List.mem_of_getElem? (i := 7) rfl))), List.forall_mem_cons.mpr ⟨List.mem_cons_of_mem _ (List.mem_append_left _ (List.mem_append_right _ (List.mem_of_getElem? (i := 8) rfl))), List.forall_mem_cons.mpr ⟨List.mem_cons_of_mem _ (List.mem_append_left _ (List.mem_append_right _ (List.mem_of_getElem? (i := 9) rfl))), List.forall_mem_cons.mpr ⟨List.mem_cons_of_mem _ (List.mem_append_left _ (List.mem_append_right _ (List.mem_of_getElem? (i := 10) rfl))), List.forall_mem_cons.mpr ⟨List.mem_cons_of_mem _ (List.mem_append_left _ (List.mem_append_left _ (List.mem_of_getElem? (i := 2) rfl))), List.forall_mem_cons.mpr ⟨List.mem_cons_of_mem _ (List.mem_append_left _ (List.mem_append_left _ (List.mem_of_getElem? (i := 3) rfl))), nowords_in⟩⟩⟩⟩⟩⟩⟩⟩, (fun _ h => List.mem_cons_of_mem _ (List.mem_append_right _ (h)))⟩⟩)
set_option maxRecDepth 20000 in
theorem gX8_begin_X8_advance : GoodIn wsX8_begin (wsV RX8 74 RX8 yX8_advance wsX8_advance) := goodIn_app (goodIn_by gd_X8_begin (List.forall_mem_cons.mpr ⟨List.mem_cons_of_mem _ (List.mem_append_left _ (List.mem_append_left _ (List.mem_of_getElem? (i := 4) rfl))), List.forall_mem_cons.mpr ⟨List.mem_cons_of_mem _ (List.mem_append_left _ (List.mem_append_left _ (List.mem_of_getElem? (i := 5) rfl))), List.forall_mem_cons.mpr ⟨List.mem_cons_of_mem _ (List.mem_append_left _ (List.mem_append_left _ (List.mem_of_getElem? (i := 6) rfl))), List.forall_mem_cons.mpr ⟨List.mem_cons_of_mem _ (List.mem_append_left _ (List.mem_append_left _ (List.mem_of_getElem? (i := 7) rfl))), nowords_in⟩⟩⟩⟩)) ggX8_begin_X8_advance
theorem dX8_begin_0 : decode cX8_begin 0 = .ok (.aload_n 0, 1) := by decide +kernel
theorem dX8_begin_1 : decode cX8_begin 1 = .ok (.iload_n 1, 1) := by decide +kernel
theorem dX8_begin_2 : decode cX8_begin 2 = .ok (.putfield 23, 3) := by decide +kernel
theorem dX8_begin_5 : decode cX8_begin 5 = .ok (.aload_n 0, 1) := by decide +kernel
theorem dX8_begin_6 : decode cX8_begin 6 = .ok (.iconst 0, 1) := by decide +kernel
theorem dX8_begin_7 : decode cX8_begin 7 = .ok (.putfield 29, 3) := by decide +kernel
theorem dX8_begin_10 : decode cX8_begin 10 = .ok (.aload_n 0, 1) := by decide +kernel
theorem dX8_begin_11 : decode cX8_begin 11 = .ok (.iconst 0, 1) := by decide +kernel
theorem dX8_begin_12 : decode cX8_begin 12 = .ok (.putfield 53, 3) := by decide +kernel
theorem dX8_begin_15 : decode cX8_begin 15 = .ok (.aload_n 0, 1) := by decide +kernel
theorem dX8_begin_16 : decode cX8_begin 16 = .ok (.iconst (-1), 1) := by decide +kernel
theorem dX8_begin_17 : decode cX8_begin 17 = .ok (.putfield 56, 3) := by decide +kernel
theorem dX8_begin_20 : decode cX8_begin 20 = .ok (.aload_n 0, 1) := by decide +kernel
theorem dX8_begin_21 : decode cX8_begin 21 = .ok (.invokevirtual 74, 3) := by decide +kernel
theorem dX8_begin_24 : decode cX8_begin 24 = .ok (.ireturn, 1) := by decide +kernel
abbrev rmX8_begin : Room := { frames := 3, cells := 0, slots := 0, locals := 65 }
set_option maxHeartbeats 4000000 in
set_option maxRecDepth 100000 in
theorem kX8_begin (l : Launch) (D : va_G) (cy : Nat → ClassId) (h0 : Nat) (a0 : Nat → Nat) (s0 : Rc) (p1 : Int32) (res : Int32 × Rc) (h : fX8_begin p1 s0 = some res) : CZ l D cy yX8_begin wsX8_begin rmX8_begin [.ref h0, .int p1] (flat [WX8 cy h0 a0 s0]) (flat [WX8 cy h0 a0 res.2]) res.1 := by
  refine CZ.of (cc := cX8_begin) (maxL := 2) (by decide) rfl (Nat.le_of_ble_eq_true rfl) ?_
  intro p e s m args below meth c A QQ ls E hr
  obtain ⟨hx, hb, hml, hown, hts, hK, hN, hP, hD, hA, hl⟩ := E
  have hret : ∀ (pc : Nat) (H : Heap) (locs : List Loc) (ls : Array Slot) (u : Int32 × Rc), u = res → va_P D vwCl (flat [WX8 cy h0 a0 u.2]) H → va_D A (flat [WX8 cy h0 a0 u.2]) → va_S A s.heap H locs → isb u.1 = true → decode cX8_begin pc = .ok (.ireturn, 1) → W p l e rmX8_begin s m args below meth c H locs 0 0 QQ (F0 m pc ls [.int u.1]) := by
    intro pc H locs ls u hu hP hD hS hz hd; subst hu; exact hr pc H locs ls _ rfl hP hD hS hz hd
  clear hr
  have hl : lv_has ls 2 [(0, .ref h0), (1, .int p1)] := hl
  have hinX8 : ∀ w ∈ wsX80, w ∈ wsX8_begin := fun _ h => List.mem_cons_of_mem _ (List.mem_append_right _ h)
  unfold fX8_begin at h
  suffices key : ∀ (H : Heap) (locs : List Loc), va_P D vwCl (flat [WX8 cy h0 a0 s0]) H → va_S A s.heap H locs → W p l e rmX8_begin s m args below meth c H locs 0 0 QQ (F0 m 0 ls []) from key _ _ hP va_S.rf
  clear hP
  intro H locs hP hS
  refine lv_aload_n hx hb dX8_begin_0 rfl (lv_at hl 0 rfl) ?_
  refine lv_iload_n hx hb dX8_begin_1 rfl (lv_at hl 1 rfl) ?_
  obtain ⟨s0_1, es, h⟩ := lt_elim h
  refine va_put (D := D) (ci := 8) (v := .int p1) (ty := .int) (C := RX8) (T := TX8) (N := 14) hx hb hts hinX8 tyX8 tyX8_ok nmX8 hown hK hP hD hS 0 rfl rfl 3 (by decide) (hts (.fieldLink RX8 23 "KneeBench$Tokens" "length" "I") (List.mem_of_getElem? (i := 1) rfl)) (fun _ h9 => h9) rfl (by decide +kernel) rfl rfl (Nat.le_of_ble_eq_true rfl) dX8_begin_2 (fun H locs hP hD hS => ?_)
  have hP : va_P D vwCl (flat [WX8 cy h0 a0 s0_1]) H := by rw [es]; exact hP
  have hD : va_D A (flat [WX8 cy h0 a0 s0_1]) := by rw [es]; exact hD
  clear es
  refine lv_aload_n hx hb dX8_begin_5 rfl (lv_at hl 0 rfl) ?_
  refine lv_iconst (v := 0) hx hb dX8_begin_6 (by decide) ?_
  obtain ⟨s0_2, es, h⟩ := lt_elim h
  refine va_put (D := D) (ci := 8) (v := .int (0 : Int32)) (ty := .int) (C := RX8) (T := TX8) (N := 14) hx hb hts hinX8 tyX8 tyX8_ok nmX8 hown hK hP hD hS 0 rfl rfl 5 (by decide) (hts (.fieldLink RX8 29 "KneeBench$Tokens" "behind" "I") (List.mem_of_getElem? (i := 2) rfl)) (fun _ h9 => h9) rfl (by decide +kernel) rfl rfl (Nat.le_of_ble_eq_true rfl) dX8_begin_7 (fun H locs hP hD hS => ?_)
  have hP : va_P D vwCl (flat [WX8 cy h0 a0 s0_2]) H := by rw [es]; exact hP
  have hD : va_D A (flat [WX8 cy h0 a0 s0_2]) := by rw [es]; exact hD
  clear es
  refine lv_aload_n hx hb dX8_begin_10 rfl (lv_at hl 0 rfl) ?_
  refine lv_iconst (v := 0) hx hb dX8_begin_11 (by decide) ?_
  obtain ⟨s0_3, es, h⟩ := lt_elim h
  refine va_put (D := D) (ci := 8) (v := .int (0 : Int32)) (ty := .int) (C := RX8) (T := TX8) (N := 14) hx hb hts hinX8 tyX8 tyX8_ok nmX8 hown hK hP hD hS 0 rfl rfl 12 (by decide) (hts (.fieldLink RX8 53 "KneeBench$Tokens" "fault" "I") (List.mem_of_getElem? (i := 3) rfl)) (fun _ h9 => h9) rfl (by decide +kernel) rfl rfl (Nat.le_of_ble_eq_true rfl) dX8_begin_12 (fun H locs hP hD hS => ?_)
  have hP : va_P D vwCl (flat [WX8 cy h0 a0 s0_3]) H := by rw [es]; exact hP
  have hD : va_D A (flat [WX8 cy h0 a0 s0_3]) := by rw [es]; exact hD
  clear es
  refine lv_aload_n hx hb dX8_begin_15 rfl (lv_at hl 0 rfl) ?_
  refine lv_iconst (v := -1) hx hb dX8_begin_16 (by decide) ?_
  obtain ⟨s0_4, es, h⟩ := lt_elim h
  refine va_put (D := D) (ci := 8) (v := .int (-1 : Int32)) (ty := .int) (C := RX8) (T := TX8) (N := 14) hx hb hts hinX8 tyX8 tyX8_ok nmX8 hown hK hP hD hS 0 rfl rfl 13 (by decide) (hts (.fieldLink RX8 56 "KneeBench$Tokens" "faultPlace" "I") (List.mem_of_getElem? (i := 4) rfl)) (fun _ h9 => h9) rfl (by decide +kernel) rfl rfl (Nat.le_of_ble_eq_true rfl) dX8_begin_17 (fun H locs hP hD hS => ?_)
  have hP : va_P D vwCl (flat [WX8 cy h0 a0 s0_4]) H := by rw [es]; exact hP
  have hD : va_D A (flat [WX8 cy h0 a0 s0_4]) := by rw [es]; exact hD
  clear es
  refine lv_aload_n hx hb dX8_begin_20 rfl (lv_at hl 0 rfl) ?_
  obtain ⟨r5, hr5, h⟩ := bd_elim h
  refine ca_z (w' := [WX8 cy h0 a0 r5.2]) (rn_V (As := []) (rest := []) ⟨hx, hb, hml, hown, hts⟩ (kX8_advance l D cy h0 a0 s0_4 r5 hr5 H.size) (cwV 0 hts gX8_begin_X8_advance rfl rfl rfl (by decide +kernel) ⟨Nat.le_of_ble_eq_true rfl, Nat.le_of_ble_eq_true rfl⟩) hK hN hP hD [0] rfl rfl (ci := 8) (q0 := 0) rfl rfl rfl rfl hl.1 rfl (Nat.le_of_ble_eq_true rfl) dX8_begin_21 ⟨Nat.le_refl 0, Nat.le_refl 0⟩) hP hD hS hA [0] ⟨rfl, rfl, rfl, rfl⟩ (fun b6 H locs hP hD hS => ?_)
  exact hret 24 H locs ls (r5.1, r5.2) (Option.some.inj h) hP hD hS b6 dX8_begin_24
theorem dX8_isAtEnd_0 : decode cX8_isAtEnd 0 = .ok (.aload_n 0, 1) := by decide +kernel
theorem dX8_isAtEnd_1 : decode cX8_isAtEnd 1 = .ok (.getfield 32, 3) := by decide +kernel
theorem dX8_isAtEnd_4 : decode cX8_isAtEnd 4 = .ok (.ifCond .ne 7, 3) := by decide +kernel
theorem dX8_isAtEnd_7 : decode cX8_isAtEnd 7 = .ok (.iconst 1, 1) := by decide +kernel
theorem dX8_isAtEnd_8 : decode cX8_isAtEnd 8 = .ok (.goto 4, 3) := by decide +kernel
theorem dX8_isAtEnd_11 : decode cX8_isAtEnd 11 = .ok (.iconst 0, 1) := by decide +kernel
theorem dX8_isAtEnd_12 : decode cX8_isAtEnd 12 = .ok (.ireturn, 1) := by decide +kernel
abbrev rmX8_isAtEnd : Room := { frames := 0, cells := 0, slots := 0, locals := 0 }
set_option maxHeartbeats 4000000 in
set_option maxRecDepth 100000 in
theorem kX8_isAtEnd (l : Launch) (D : va_G) (cy : Nat → ClassId) (h0 : Nat) (a0 : Nat → Nat) (s0 : Rc) (res : Int32) (h : fX8_isAtEnd s0 = res) : CZ l D cy yX8_isAtEnd wsX8_isAtEnd rmX8_isAtEnd [.ref h0] (flat [WX8 cy h0 a0 s0]) (flat [WX8 cy h0 a0 s0]) res := by
  refine CZ.of (cc := cX8_isAtEnd) (maxL := 1) (by decide) rfl (Nat.le_of_ble_eq_true rfl) ?_
  intro p e s m args below meth c A QQ ls E hr
  obtain ⟨hx, hb, hml, hown, hts, hK, hN, hP, hD, hA, hl⟩ := E
  have hret : ∀ (pc : Nat) (H : Heap) (locs : List Loc) (ls : Array Slot) (u : Int32), u = res → va_P D vwCl (flat [WX8 cy h0 a0 s0]) H → va_D A (flat [WX8 cy h0 a0 s0]) → va_S A s.heap H locs → isb u = true → decode cX8_isAtEnd pc = .ok (.ireturn, 1) → W p l e rmX8_isAtEnd s m args below meth c H locs 0 0 QQ (F0 m pc ls [.int u]) := by
    intro pc H locs ls u hu hP hD hS hz hd; subst hu; exact hr pc H locs ls _ rfl hP hD hS hz hd
  clear hr
  have hl : lv_has ls 1 [(0, .ref h0)] := hl
  have hinX8 : ∀ w ∈ wsX80, w ∈ wsX8_isAtEnd := fun _ h => List.mem_cons_of_mem _ (List.mem_append_right _ h)
  unfold fX8_isAtEnd at h
  suffices key : ∀ (H : Heap) (locs : List Loc), va_P D vwCl (flat [WX8 cy h0 a0 s0]) H → va_S A s.heap H locs → W p l e rmX8_isAtEnd s m args below meth c H locs 0 0 QQ (F0 m 0 ls []) from key _ _ hP va_S.rf
  clear hP
  intro H locs hP hS
  refine lv_aload_n hx hb dX8_isAtEnd_0 rfl (lv_at hl 0 rfl) ?_
  refine va_get (D := D) (ci := 8) (v := .int (gi s0 6)) (C := RX8) (T := TX8) (N := 14) hx hb hts hinX8 hown hK hP 0 rfl rfl 6 (by decide) (hts (.fieldLink RX8 32 "KneeBench$Tokens" "kind" "I") (List.mem_of_getElem? (i := 1) rfl)) (fun _ h9 => h9) rfl dX8_isAtEnd_1 ?_
  refine lv_if_ne (tgt := 11) hx hb dX8_isAtEnd_4 (by decide) (fun c1 => ?_) (fun c1 => ?_)
  · replace h := (if_neg c1).symm.trans h
    refine lv_iconst (v := 0) hx hb dX8_isAtEnd_11 (by decide) ?_
    exact hret 12 H locs ls (0 : Int32) h hP hD hS (show isb (0 : Int32) = true by decide) dX8_isAtEnd_12
  · replace h := (if_pos c1).symm.trans h
    refine lv_iconst (v := 1) hx hb dX8_isAtEnd_7 (by decide) ?_
    refine lv_goto (tgt := 12) hx hb dX8_isAtEnd_8 (by decide) ?_
    exact hret 12 H locs ls (1 : Int32) h hP hD hS (show isb (1 : Int32) = true by decide) dX8_isAtEnd_12
theorem gd_X8_mustBeName : wsX8_mustBeName.all goodWord = true := by decide +kernel
set_option maxRecDepth 20000 in
theorem ggX8_mustBeName_X8_fail : GoodIn wsX8_mustBeName wsX8_fail := goodIn_by gd_X8_mustBeName (List.forall_mem_cons.mpr ⟨List.mem_cons_of_mem _ (List.mem_append_left _ (List.mem_of_getElem? (i := 8) rfl)), List.forall_mem_append.mpr ⟨List.forall_mem_cons.mpr ⟨List.mem_cons_of_mem _ (List.mem_append_left _ (List.mem_of_getElem? (i := 9) rfl)), List.forall_mem_cons.mpr ⟨List.mem_cons_of_mem _ (List.mem_append_left _ (List.mem_of_getElem? (i := 10) rfl)), List.forall_mem_cons.mpr ⟨List.mem_cons_of_mem _ (List.mem_append_left _ (List.mem_of_getElem? (i := 11) rfl)), nowords_in⟩⟩⟩, (fun _ h => List.mem_cons_of_mem _ (List.mem_append_right _ (h)))⟩⟩)
set_option maxRecDepth 20000 in
theorem gX8_mustBeName_X8_fail : GoodIn wsX8_mustBeName (wsV RX8 88 RX8 yX8_fail wsX8_fail) := goodIn_app (goodIn_by gd_X8_mustBeName (List.forall_mem_cons.mpr ⟨List.mem_cons_of_mem _ (List.mem_append_left _ (List.mem_of_getElem? (i := 4) rfl)), List.forall_mem_cons.mpr ⟨List.mem_cons_of_mem _ (List.mem_append_left _ (List.mem_of_getElem? (i := 5) rfl)), List.forall_mem_cons.mpr ⟨List.mem_cons_of_mem _ (List.mem_append_left _ (List.mem_of_getElem? (i := 6) rfl)), List.forall_mem_cons.mpr ⟨List.mem_cons_of_mem _ (List.mem_append_left _ (List.mem_of_getElem? (i := 7) rfl)), nowords_in⟩⟩⟩⟩)) ggX8_mustBeName_X8_fail
theorem dX8_mustBeName_0 : decode cX8_mustBeName 0 = .ok (.aload_n 0, 1) := by decide +kernel
theorem dX8_mustBeName_1 : decode cX8_mustBeName 1 = .ok (.getfield 32, 3) := by decide +kernel
theorem dX8_mustBeName_4 : decode cX8_mustBeName 4 = .ok (.iconst 1, 1) := by decide +kernel
theorem dX8_mustBeName_5 : decode cX8_mustBeName 5 = .ok (.if_icmp .ne 22, 3) := by decide +kernel
theorem dX8_mustBeName_8 : decode cX8_mustBeName 8 = .ok (.aload_n 0, 1) := by decide +kernel
theorem dX8_mustBeName_9 : decode cX8_mustBeName 9 = .ok (.getfield 37, 3) := by decide +kernel
theorem dX8_mustBeName_12 : decode cX8_mustBeName 12 = .ok (.ldc2_w 35, 3) := by decide +kernel
theorem dX8_mustBeName_15 : decode cX8_mustBeName 15 = .ok (.lcmp, 1) := by decide +kernel
theorem dX8_mustBeName_16 : decode cX8_mustBeName 16 = .ok (.ifCond .eq 11, 3) := by decide +kernel
theorem dX8_mustBeName_19 : decode cX8_mustBeName 19 = .ok (.aload_n 0, 1) := by decide +kernel
theorem dX8_mustBeName_20 : decode cX8_mustBeName 20 = .ok (.getfield 41, 3) := by decide +kernel
theorem dX8_mustBeName_23 : decode cX8_mustBeName 23 = .ok (.iconst (-1), 1) := by decide +kernel
theorem dX8_mustBeName_24 : decode cX8_mustBeName 24 = .ok (.if_icmp .eq 11, 3) := by decide +kernel
theorem dX8_mustBeName_27 : decode cX8_mustBeName 27 = .ok (.aload_n 0, 1) := by decide +kernel
theorem dX8_mustBeName_28 : decode cX8_mustBeName 28 = .ok (.iconst 2, 1) := by decide +kernel
theorem dX8_mustBeName_29 : decode cX8_mustBeName 29 = .ok (.invokevirtual 88, 3) := by decide +kernel
theorem dX8_mustBeName_32 : decode cX8_mustBeName 32 = .ok (.ifCond .eq 7, 3) := by decide +kernel
theorem dX8_mustBeName_35 : decode cX8_mustBeName 35 = .ok (.iconst 1, 1) := by decide +kernel
theorem dX8_mustBeName_36 : decode cX8_mustBeName 36 = .ok (.goto 4, 3) := by decide +kernel
theorem dX8_mustBeName_39 : decode cX8_mustBeName 39 = .ok (.iconst 0, 1) := by decide +kernel
theorem dX8_mustBeName_40 : decode cX8_mustBeName 40 = .ok (.ireturn, 1) := by decide +kernel
abbrev rmX8_mustBeName : Room := { frames := 1, cells := 0, slots := 0, locals := 21 }
set_option maxHeartbeats 4000000 in
set_option maxRecDepth 100000 in
theorem kX8_mustBeName (l : Launch) (D : va_G) (cy : Nat → ClassId) (h0 : Nat) (a0 : Nat → Nat) (s0 : Rc) (res : Int32 × Rc) (h : fX8_mustBeName s0 = res) : CZ l D cy yX8_mustBeName wsX8_mustBeName rmX8_mustBeName [.ref h0] (flat [WX8 cy h0 a0 s0]) (flat [WX8 cy h0 a0 res.2]) res.1 := by
  refine CZ.of (cc := cX8_mustBeName) (maxL := 1) (by decide) rfl (Nat.le_of_ble_eq_true rfl) ?_
  intro p e s m args below meth c A QQ ls E hr
  obtain ⟨hx, hb, hml, hown, hts, hK, hN, hP, hD, hA, hl⟩ := E
  have hret : ∀ (pc : Nat) (H : Heap) (locs : List Loc) (ls : Array Slot) (u : Int32 × Rc), u = res → va_P D vwCl (flat [WX8 cy h0 a0 u.2]) H → va_D A (flat [WX8 cy h0 a0 u.2]) → va_S A s.heap H locs → isb u.1 = true → decode cX8_mustBeName pc = .ok (.ireturn, 1) → W p l e rmX8_mustBeName s m args below meth c H locs 0 0 QQ (F0 m pc ls [.int u.1]) := by
    intro pc H locs ls u hu hP hD hS hz hd; subst hu; exact hr pc H locs ls _ rfl hP hD hS hz hd
  clear hr
  have hl : lv_has ls 1 [(0, .ref h0)] := hl
  have hinX8 : ∀ w ∈ wsX80, w ∈ wsX8_mustBeName := fun _ h => List.mem_cons_of_mem _ (List.mem_append_right _ h)
  unfold fX8_mustBeName at h
  suffices key : ∀ (H : Heap) (locs : List Loc), va_P D vwCl (flat [WX8 cy h0 a0 s0]) H → va_S A s.heap H locs → W p l e rmX8_mustBeName s m args below meth c H locs 0 0 QQ (F0 m 0 ls []) from key _ _ hP va_S.rf
  clear hP
  intro H locs hP hS
  have J27 : ∀  (H : Heap) (locs : List Loc) (ls : Array Slot), lv_has ls 1 [(0, .ref h0)] → va_P D vwCl (flat [WX8 cy h0 a0 s0]) H → va_D A (flat [WX8 cy h0 a0 s0]) → va_S A s.heap H locs → fX8_mustBeName_J27 s0 = res → W p l e rmX8_mustBeName s m args below meth c H locs 0 0 QQ (F0 m 27 ls []) := by
    intro  H locs ls hl hP hD hS h
    unfold fX8_mustBeName_J27 at h
    refine lv_aload_n hx hb dX8_mustBeName_27 rfl (lv_at hl 0 rfl) ?_
    refine lv_iconst (v := 2) hx hb dX8_mustBeName_28 (by decide) ?_
    obtain ⟨r1, hr1, h⟩ := lt_elim h
    refine ca_z (w' := [WX8 cy h0 a0 r1.2]) (rn_V (As := [.int (2 : Int32)]) (rest := []) ⟨hx, hb, hml, hown, hts⟩ (kX8_fail l D cy h0 a0 s0 (2 : Int32) r1 hr1.symm H.size) (cwV 1 hts gX8_mustBeName_X8_fail rfl rfl rfl (by decide +kernel) ⟨Nat.le_of_ble_eq_true rfl, Nat.le_of_ble_eq_true rfl⟩) hK hN hP hD [0] rfl rfl (ci := 8) (q0 := 0) rfl rfl rfl rfl hl.1 rfl (Nat.le_of_ble_eq_true rfl) dX8_mustBeName_29 ⟨Nat.le_refl 0, Nat.le_refl 0⟩) hP hD hS hA [0] ⟨rfl, rfl, rfl, rfl⟩ (fun b2 H locs hP hD hS => ?_)
    refine lv_if_eq (tgt := 39) hx hb dX8_mustBeName_32 (by decide) (fun c3 => ?_) (fun c3 => ?_)
    · replace h := (if_pos c3).symm.trans h
      refine lv_iconst (v := 0) hx hb dX8_mustBeName_39 (by decide) ?_
      exact hret 40 H locs ls ((0 : Int32), r1.2) h hP hD hS (show isb (0 : Int32) = true by decide) dX8_mustBeName_40
    · replace h := (if_neg c3).symm.trans h
      refine lv_iconst (v := 1) hx hb dX8_mustBeName_35 (by decide) ?_
      refine lv_goto (tgt := 40) hx hb dX8_mustBeName_36 (by decide) ?_
      exact hret 40 H locs ls ((1 : Int32), r1.2) h hP hD hS (show isb (1 : Int32) = true by decide) dX8_mustBeName_40
  refine lv_aload_n hx hb dX8_mustBeName_0 rfl (lv_at hl 0 rfl) ?_
  refine va_get (D := D) (ci := 8) (v := .int (gi s0 6)) (C := RX8) (T := TX8) (N := 14) hx hb hts hinX8 hown hK hP 0 rfl rfl 6 (by decide) (hts (.fieldLink RX8 32 "KneeBench$Tokens" "kind" "I") (List.mem_of_getElem? (i := 1) rfl)) (fun _ h9 => h9) rfl dX8_mustBeName_1 ?_
  refine lv_iconst (v := 1) hx hb dX8_mustBeName_4 (by decide) ?_
  refine lv_icmp_ne (tgt := 27) hx hb dX8_mustBeName_5 (by decide) (fun c4 => ?_) (fun c4 => ?_)
  · replace h := (if_neg c4).symm.trans h
    exact J27  H locs ls (lv_sub hl [0] rfl) hP hD hS h
  · replace h := (if_pos c4).symm.trans h
    refine lv_aload_n hx hb dX8_mustBeName_8 rfl (lv_at hl 0 rfl) ?_
    refine va_get (D := D) (ci := 8) (v := .long (gl s0 7)) (C := RX8) (T := TX8) (N := 14) hx hb hts hinX8 hown hK hP 0 rfl rfl 7 (by decide) (hts (.fieldLink RX8 37 "KneeBench$Tokens" "word" "J") (List.mem_of_getElem? (i := 2) rfl)) (fun _ h9 => h9) rfl dX8_mustBeName_9 ?_
    refine lv_ldc2 (v := -1) hx hb hown (hts (.constantLong RX8 35 (-1)) (List.mem_of_getElem? (i := 3) rfl)) dX8_mustBeName_12 ?_
    refine W.lcmp hx hb dX8_mustBeName_15 ?_
    refine lv_if_eq (tgt := 27) hx hb dX8_mustBeName_16 (by decide) (fun c5 => ?_) (fun c5 => ?_)
    · replace h := (if_pos (lg_ceq.mp c5)).symm.trans h
      exact J27  H locs ls (lv_sub hl [0] rfl) hP hD hS h
    · replace h := (if_neg (fun z => c5 (lg_ceq.mpr z))).symm.trans h
      refine lv_aload_n hx hb dX8_mustBeName_19 rfl (lv_at hl 0 rfl) ?_
      refine va_get (D := D) (ci := 8) (v := .int (gi s0 8)) (C := RX8) (T := TX8) (N := 14) hx hb hts hinX8 hown hK hP 0 rfl rfl 8 (by decide) (hts (.fieldLink RX8 41 "KneeBench$Tokens" "keyword" "I") (List.mem_of_getElem? (i := 4) rfl)) (fun _ h9 => h9) rfl dX8_mustBeName_20 ?_
      refine lv_iconst (v := -1) hx hb dX8_mustBeName_23 (by decide) ?_
      refine lv_icmp_eq (tgt := 35) hx hb dX8_mustBeName_24 (by decide) (fun c6 => ?_) (fun c6 => ?_)
      · replace h := (if_pos c6).symm.trans h
        refine lv_iconst (v := 1) hx hb dX8_mustBeName_35 (by decide) ?_
        refine lv_goto (tgt := 40) hx hb dX8_mustBeName_36 (by decide) ?_
        exact hret 40 H locs ls ((1 : Int32), s0) h hP hD hS (show isb (1 : Int32) = true by decide) dX8_mustBeName_40
      · replace h := (if_neg c6).symm.trans h
        exact J27  H locs ls (lv_sub hl [0] rfl) hP hD hS h
