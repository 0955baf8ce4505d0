set_option maxRecDepth 20000 in
theorem ggX11_lies_X11_refuse : GoodIn wsX11_lies wsX11_refuse := goodIn_r _ [6, 7, 52, 53, 54, 55, 56, 57, 58, 59, 60, 61, 62, 63, 64, 65, 66, 67, 68, 69, 70, 71, 72, 73, 74, 75, 76, 77, 78, 79, 80, 81, 82, 83, 84, 85, 86, 87, 88, 89] (by decide +kernel) (by decide +kernel)
set_option maxRecDepth 20000 in
theorem gX11_lies_X11_refuse : GoodIn wsX11_lies (wsV RX11 75 RX11 yX11_refuse wsX11_refuse) := goodIn_app (goodIn_of _ (by decide +kernel)) ggX11_lies_X11_refuse
set_option maxRecDepth 20000 in
theorem ggX11_lies_X11_keptOf : GoodIn wsX11_lies wsX11_keptOf := goodIn_r _ [11, 1, 12, 13, 14, 5, 15, 16, 17, 18, 19, 20, 21, 22, 23, 24, 25, 26, 27, 28, 29, 30, 31, 32, 33, 34, 35, 36, 37, 38, 39, 40, 41, 42, 43, 52, 53, 54, 55, 56, 57, 58, 59, 60, 61, 62, 63, 64, 65, 66, 67, 68, 69, 70, 71, 72, 73, 74, 75, 76, 77, 78, 79, 80, 81, 82, 83, 84, 85, 86, 87, 88, 89] (by decide +kernel) (by decide +kernel)
set_option maxRecDepth 20000 in
theorem gX11_lies_X11_keptOf : GoodIn wsX11_lies (wsV RX11 338 RX11 yX11_keptOf wsX11_keptOf) := goodIn_app (goodIn_of _ (by decide +kernel)) ggX11_lies_X11_keptOf
set_option maxRecDepth 20000 in
theorem ggX11_lies_X11_turnsRound : GoodIn wsX11_lies wsX11_turnsRound := goodIn_r _ [47, 1, 37, 38, 5, 39, 52, 53, 54, 55, 56, 57, 58, 59, 60, 61, 62, 63, 64, 65, 66, 67, 68, 69, 70, 71, 72, 73, 74, 75, 76, 77, 78, 79, 80, 81, 82, 83, 84, 85, 86, 87, 88, 89] (by decide +kernel) (by decide +kernel)
set_option maxRecDepth 20000 in
theorem gX11_lies_X11_turnsRound : GoodIn wsX11_lies (wsV RX11 289 RX11 yX11_turnsRound wsX11_turnsRound) := goodIn_app (goodIn_of _ (by decide +kernel)) ggX11_lies_X11_turnsRound
set_option maxRecDepth 20000 in
theorem ggX11_lies_X11_gives : GoodIn wsX11_lies wsX11_gives := goodIn_r _ [51, 7, 52, 53, 54, 55, 56, 57, 58, 59, 60, 61, 62, 63, 64, 65, 66, 67, 68, 69, 70, 71, 72, 73, 74, 75, 76, 77, 78, 79, 80, 81, 82, 83, 84, 85, 86, 87, 88, 89] (by decide +kernel) (by decide +kernel)
set_option maxRecDepth 20000 in
theorem gX11_lies_X11_gives : GoodIn wsX11_lies (wsV RX11 79 RX11 yX11_gives wsX11_gives) := goodIn_app (goodIn_of _ (by decide +kernel)) ggX11_lies_X11_gives
theorem dX11_lies_0 : decode cX11_lies 0 = .ok (.iload_n 1, 1) := by decide +kernel
theorem dX11_lies_1 : decode cX11_lies 1 = .ok (.ifCond .lt 8, 3) := by decide +kernel
theorem dX11_lies_4 : decode cX11_lies 4 = .ok (.iload_n 1, 1) := by decide +kernel
theorem dX11_lies_5 : decode cX11_lies 5 = .ok (.iconst 1, 1) := by decide +kernel
theorem dX11_lies_6 : decode cX11_lies 6 = .ok (.if_icmp .le 9, 3) := by decide +kernel
theorem dX11_lies_9 : decode cX11_lies 9 = .ok (.aload_n 0, 1) := by decide +kernel
theorem dX11_lies_10 : decode cX11_lies 10 = .ok (.iconst 1, 1) := by decide +kernel
theorem dX11_lies_11 : decode cX11_lies 11 = .ok (.invokevirtual 75, 3) := by decide +kernel
theorem dX11_lies_14 : decode cX11_lies 14 = .ok (.ireturn, 1) := by decide +kernel
theorem dX11_lies_15 : decode cX11_lies 15 = .ok (.aload_n 0, 1) := by decide +kernel
theorem dX11_lies_16 : decode cX11_lies 16 = .ok (.invokevirtual 338, 3) := by decide +kernel
theorem dX11_lies_19 : decode cX11_lies 19 = .ok (.istore_n 2, 1) := by decide +kernel
theorem dX11_lies_20 : decode cX11_lies 20 = .ok (.iconst 0, 1) := by decide +kernel
theorem dX11_lies_21 : decode cX11_lies 21 = .ok (.istore_n 3, 1) := by decide +kernel
theorem dX11_lies_22 : decode cX11_lies 22 = .ok (.iconst 0, 1) := by decide +kernel
theorem dX11_lies_23 : decode cX11_lies 23 = .ok (.istore 4, 2) := by decide +kernel
theorem dX11_lies_25 : decode cX11_lies 25 = .ok (.iload 4, 2) := by decide +kernel
theorem dX11_lies_27 : decode cX11_lies 27 = .ok (.aload_n 0, 1) := by decide +kernel
theorem dX11_lies_28 : decode cX11_lies 28 = .ok (.getfield 7, 3) := by decide +kernel
theorem dX11_lies_31 : decode cX11_lies 31 = .ok (.iconst 0, 1) := by decide +kernel
theorem dX11_lies_32 : decode cX11_lies 32 = .ok (.iaload, 1) := by decide +kernel
theorem dX11_lies_33 : decode cX11_lies 33 = .ok (.if_icmp .ge 82, 3) := by decide +kernel
theorem dX11_lies_36 : decode cX11_lies 36 = .ok (.iconst 0, 1) := by decide +kernel
theorem dX11_lies_37 : decode cX11_lies 37 = .ok (.istore 5, 2) := by decide +kernel
theorem dX11_lies_39 : decode cX11_lies 39 = .ok (.iload 5, 2) := by decide +kernel
theorem dX11_lies_41 : decode cX11_lies 41 = .ok (.aload_n 0, 1) := by decide +kernel
theorem dX11_lies_42 : decode cX11_lies 42 = .ok (.getfield 7, 3) := by decide +kernel
theorem dX11_lies_45 : decode cX11_lies 45 = .ok (.iconst 1, 1) := by decide +kernel
theorem dX11_lies_46 : decode cX11_lies 46 = .ok (.iaload, 1) := by decide +kernel
theorem dX11_lies_47 : decode cX11_lies 47 = .ok (.if_icmp .ge 62, 3) := by decide +kernel
theorem dX11_lies_50 : decode cX11_lies 50 = .ok (.aload_n 0, 1) := by decide +kernel
theorem dX11_lies_51 : decode cX11_lies 51 = .ok (.iload 4, 2) := by decide +kernel
theorem dX11_lies_53 : decode cX11_lies 53 = .ok (.iload 5, 2) := by decide +kernel
theorem dX11_lies_55 : decode cX11_lies 55 = .ok (.invokevirtual 289, 3) := by decide +kernel
theorem dX11_lies_58 : decode cX11_lies 58 = .ok (.pop, 1) := by decide +kernel
theorem dX11_lies_59 : decode cX11_lies 59 = .ok (.aload_n 0, 1) := by decide +kernel
theorem dX11_lies_60 : decode cX11_lies 60 = .ok (.invokevirtual 338, 3) := by decide +kernel
theorem dX11_lies_63 : decode cX11_lies 63 = .ok (.istore 6, 2) := by decide +kernel
theorem dX11_lies_65 : decode cX11_lies 65 = .ok (.aload_n 0, 1) := by decide +kernel
theorem dX11_lies_66 : decode cX11_lies 66 = .ok (.iload 4, 2) := by decide +kernel
theorem dX11_lies_68 : decode cX11_lies 68 = .ok (.iload 5, 2) := by decide +kernel
theorem dX11_lies_70 : decode cX11_lies 70 = .ok (.invokevirtual 289, 3) := by decide +kernel
theorem dX11_lies_73 : decode cX11_lies 73 = .ok (.pop, 1) := by decide +kernel
theorem dX11_lies_74 : decode cX11_lies 74 = .ok (.iload_n 3, 1) := by decide +kernel
theorem dX11_lies_75 : decode cX11_lies 75 = .ok (.iload_n 1, 1) := by decide +kernel
theorem dX11_lies_76 : decode cX11_lies 76 = .ok (.ifCond .ne 9, 3) := by decide +kernel
theorem dX11_lies_79 : decode cX11_lies 79 = .ok (.iload 6, 2) := by decide +kernel
theorem dX11_lies_81 : decode cX11_lies 81 = .ok (.iload_n 2, 1) := by decide +kernel
theorem dX11_lies_82 : decode cX11_lies 82 = .ok (.if_icmp .lt 14, 3) := by decide +kernel
theorem dX11_lies_85 : decode cX11_lies 85 = .ok (.iload_n 1, 1) := by decide +kernel
theorem dX11_lies_86 : decode cX11_lies 86 = .ok (.iconst 1, 1) := by decide +kernel
theorem dX11_lies_87 : decode cX11_lies 87 = .ok (.if_icmp .ne 13, 3) := by decide +kernel
theorem dX11_lies_90 : decode cX11_lies 90 = .ok (.iload 6, 2) := by decide +kernel
theorem dX11_lies_92 : decode cX11_lies 92 = .ok (.iload_n 2, 1) := by decide +kernel
theorem dX11_lies_93 : decode cX11_lies 93 = .ok (.if_icmp .le 7, 3) := by decide +kernel
theorem dX11_lies_96 : decode cX11_lies 96 = .ok (.iconst 1, 1) := by decide +kernel
theorem dX11_lies_97 : decode cX11_lies 97 = .ok (.goto 4, 3) := by decide +kernel
theorem dX11_lies_100 : decode cX11_lies 100 = .ok (.iconst 0, 1) := by decide +kernel
theorem dX11_lies_101 : decode cX11_lies 101 = .ok (.iadd, 1) := by decide +kernel
theorem dX11_lies_102 : decode cX11_lies 102 = .ok (.istore_n 3, 1) := by decide +kernel
theorem dX11_lies_103 : decode cX11_lies 103 = .ok (.iinc 5 1, 3) := by decide +kernel
theorem dX11_lies_106 : decode cX11_lies 106 = .ok (.goto (-67), 3) := by decide +kernel
theorem dX11_lies_109 : decode cX11_lies 109 = .ok (.iinc 4 1, 3) := by decide +kernel
theorem dX11_lies_112 : decode cX11_lies 112 = .ok (.goto (-87), 3) := by decide +kernel
theorem dX11_lies_115 : decode cX11_lies 115 = .ok (.aload_n 0, 1) := by decide +kernel
theorem dX11_lies_116 : decode cX11_lies 116 = .ok (.iload_n 3, 1) := by decide +kernel
theorem dX11_lies_117 : decode cX11_lies 117 = .ok (.invokevirtual 79, 3) := by decide +kernel
theorem dX11_lies_120 : decode cX11_lies 120 = .ok (.ireturn, 1) := by decide +kernel
noncomputable def fX11_lies_J85 (p1 : Int32) (r4 : Int32) (y85_5 : Int32) (y85_6 : Int32) (z85_0 : Int32) (t85_0 : Rc) : Option ((Int32 × Int32 × Rc) ⊕ (Int32 × Rc)) :=
if p1 = (1 : Int32) then (
if y85_6 ≤ r4 then (
lt_ (z85_0 + (0 : Int32)) (fun x9 =>
some (.inl (x9, (y85_5 + (1 : Int32)), t85_0)))) else (
lt_ (z85_0 + (1 : Int32)) (fun x10 =>
some (.inl (x10, (y85_5 + (1 : Int32)), t85_0))))) else (
lt_ (z85_0 + (0 : Int32)) (fun x7 =>
some (.inl (x7, (y85_5 + (1 : Int32)), t85_0))))
noncomputable def fX11_lies_L39 (p1 : Int32) (r4 : Int32) (q25 : Int32 × Int32 × Rc) (q39 : Int32 × Int32 × Rc) : Option ((Int32 × Int32 × Rc) ⊕ (Int32 × Rc)) :=
if (ga q39.2.2 0 (1 : Int32).toNatClampNeg) ≤ q39.2.1 then (
some (.inr (q39.1, q39.2.2))) else (
(fX11_turnsRound q25.2.1 q39.2.1 q39.2.2).bind (fun r12 =>
(fX11_keptOf r12.2).bind (fun r13 =>
(fX11_turnsRound q25.2.1 q39.2.1 r12.2).bind (fun r14 =>
if p1 = (0 : Int32) then (
if r13 < r4 then (
lt_ (q39.1 + (1 : Int32)) (fun x17 =>
some (.inl (x17, (q39.2.1 + (1 : Int32)), r14.2)))) else (
fX11_lies_J85 p1 r4 q39.2.1 r13 q39.1 r14.2)) else (
fX11_lies_J85 p1 r4 q39.2.1 r13 q39.1 r14.2)))))
noncomputable def fX11_lies_L25 (p1 : Int32) (r4 : Int32) (q25 : Int32 × Int32 × Rc) : Option ((Int32 × Int32 × Rc) ⊕ (Int32 × Rc)) :=
if (ga q25.2.2 0 (0 : Int32).toNatClampNeg) ≤ q25.2.1 then (
some (.inr (q25.1, q25.2.2))) else (
(loopF (fX11_lies_L39 p1 r4 q25) (q25.1, (0 : Int32), q25.2.2)).bind (fun o39 =>
some (.inl (o39.1, (q25.2.1 + (1 : Int32)), o39.2))))
noncomputable def fX11_lies (p1 : Int32) (s0 : Rc) : Option (Int32 × Rc) :=
if p1 < (0 : Int32) then (
lt_ (fX11_refuse (1 : Int32) s0) (fun r2 =>
some (r2.1, r2.2))) else (
if p1 ≤ (1 : Int32) then (
(fX11_keptOf s0).bind (fun r4 =>
(loopF (fX11_lies_L25 p1 r4) ((0 : Int32), (0 : Int32), s0)).bind (fun o25 =>
lt_ (fX11_gives o25.1 o25.2) (fun r18 =>
some (r18.1, r18.2))))) else (
lt_ (fX11_refuse (1 : Int32) s0) (fun r19 =>
some (r19.1, r19.2))))
abbrev rmX11_lies : Room := { frames := 5, cells := 0, slots := 0, locals := 114 }
set_option maxHeartbeats 4000000 in
set_option maxRecDepth 100000 in
theorem kX11_lies (l : Launch) (D : va_G) (cy : Nat → ClassId) (h0 : Nat) (a0 : Nat → Nat) (s0 : Rc) (p1 : Int32) (res : Int32 × Rc) (h : fX11_lies p1 s0 = some res) : CI l D cy yX11_lies wsX11_lies rmX11_lies [.ref h0, .int p1] (WX11 cy h0 a0 s0) (WX11 cy h0 a0 res.2) res.1 := by
  refine CI.of (cc := cX11_lies) (maxL := 7) (by decide) rfl (Nat.le_of_ble_eq_true rfl) ?_
  intro p e s m args below meth c A QQ ls E hr
  obtain ⟨hx, hb, hml, hown, hts, hK, hN, hP, hD, hA, hl⟩ := E
  have hret : ∀ (pc : Nat) (H : Heap) (locs : List Loc) (ls : Array Slot) (u : Int32 × Rc), u = res → va_P D vwCl (WX11 cy h0 a0 u.2) H → va_D A (WX11 cy h0 a0 u.2) → va_S A s.heap H locs → decode cX11_lies pc = .ok (.ireturn, 1) → W p l e rmX11_lies s m args below meth c H locs 0 0 QQ (F0 m pc ls [.int u.1]) := by
    intro pc H locs ls u hu hP hD hS hd; subst hu; exact hr pc H locs ls _ rfl hP hD hS hd
  clear hr
  have hl : lv_has ls 7 [(0, .ref h0), (1, .int p1)] := hl
  have hinX11 : ∀ w ∈ wsX110, w ∈ wsX11_lies := fun _ h => List.mem_cons_of_mem _ (List.mem_append_right _ h)
  unfold fX11_lies at h
  suffices key : ∀ (H : Heap) (locs : List Loc), va_P D vwCl (WX11 cy h0 a0 s0) H → va_S A s.heap H locs → W p l e rmX11_lies s m args below meth c H locs 0 0 QQ (F0 m 0 ls []) from key _ _ hP va_S.rf
  clear hP
  intro H locs hP hS
  refine lv_iload_n hx hb dX11_lies_0 rfl (lv_at hl 1 rfl) ?_
  refine lv_if_lt (tgt := 9) hx hb dX11_lies_1 (by decide) (fun c1 => ?_) (fun c1 => ?_)
  · replace h := (if_pos c1).symm.trans h
    refine lv_aload_n hx hb dX11_lies_9 rfl (lv_at hl 0 rfl) ?_
    refine lv_iconst (v := 1) hx hb dX11_lies_10 (by decide) ?_
    obtain ⟨r2, hr2, h⟩ := lt_elim h
    refine ca_i (w' := WX11 cy h0 a0 r2.2) (rn_V (As := [.int (1 : Int32)]) (rest := []) ⟨hx, hb, hml, hown, hts⟩ (kX11_refuse l D cy h0 a0 s0 (1 : Int32) r2 hr2.symm H.size) (cwV 1 hts gX11_lies_X11_refuse rfl rfl rfl (by decide +kernel) ⟨Nat.le_of_ble_eq_true rfl, Nat.le_of_ble_eq_true rfl⟩) hK hN hP hD [0, 1, 2, 3, 4, 5, 6, 7, 8, 9, 10, 11, 12, 13] rfl rfl (ci := 11) (q0 := 0) rfl rfl rfl rfl hl.1 rfl (Nat.le_of_ble_eq_true rfl) dX11_lies_11 ⟨Nat.le_refl 0, Nat.le_refl 0⟩) hP hD hS hA [0, 1, 2, 3, 4, 5, 6, 7, 8, 9, 10, 11, 12, 13] ⟨rfl, rfl, rfl, rfl⟩ (fun H locs hP hD hS => ?_)
    exact hret 14 H locs ls (r2.1, r2.2) (Option.some.inj h) hP hD hS dX11_lies_14
  · replace h := (if_neg c1).symm.trans h
    refine lv_iload_n hx hb dX11_lies_4 rfl (lv_at hl 1 rfl) ?_
    refine lv_iconst (v := 1) hx hb dX11_lies_5 (by decide) ?_
    refine lv_icmp_le (tgt := 15) hx hb dX11_lies_6 (by decide) (fun c3 => ?_) (fun c3 => ?_)
    · replace h := (if_pos c3).symm.trans h
      refine lv_aload_n hx hb dX11_lies_15 rfl (lv_at hl 0 rfl) ?_
      obtain ⟨r4, hr4, h⟩ := bd_elim h
      refine ca_i (w' := WX11 cy h0 a0 s0) (rn_V (As := []) (rest := []) ⟨hx, hb, hml, hown, hts⟩ (kX11_keptOf l D cy h0 a0 s0 r4 hr4 H.size) (cwV 0 hts gX11_lies_X11_keptOf rfl rfl rfl (by decide +kernel) ⟨Nat.le_of_ble_eq_true rfl, Nat.le_of_ble_eq_true rfl⟩) hK hN hP hD [0, 1, 2, 3, 4, 5, 6, 7, 8, 9, 10, 11, 12, 13] rfl rfl (ci := 11) (q0 := 0) rfl rfl rfl rfl hl.1 rfl (Nat.le_of_ble_eq_true rfl) dX11_lies_16 ⟨Nat.le_refl 0, Nat.le_refl 0⟩) hP hD hS hA [0, 1, 2, 3, 4, 5, 6, 7, 8, 9, 10, 11, 12, 13] ⟨rfl, rfl, rfl, rfl⟩ (fun H locs hP hD hS => ?_)
      refine lv_istore_n (lv' := [(2, .int r4), (0, .ref h0), (1, .int p1)]) hx hb dX11_lies_19 rfl hl (by decide) rfl (fun ls hl => ?_)
      refine lv_iconst (v := 0) hx hb dX11_lies_20 (by decide) ?_
      refine lv_istore_n (lv' := [(3, .int (0 : Int32)), (2, .int r4), (0, .ref h0), (1, .int p1)]) hx hb dX11_lies_21 rfl hl (by decide) rfl (fun ls hl => ?_)
      refine lv_iconst (v := 0) hx hb dX11_lies_22 (by decide) ?_
      refine lv_istore (lv' := [(4, .int (0 : Int32)), (3, .int (0 : Int32)), (2, .int r4), (0, .ref h0), (1, .int p1)]) hx hb dX11_lies_23 hl (by decide) rfl (fun ls hl => ?_)
      have L25 : ∀ (n : Nat) (q25 : Int32 × Int32 × Rc) (o : Int32 × Rc), loopO (fX11_lies_L25 p1 r4) n q25 = some o → ∀ (H : Heap) (locs : List Loc) (ls : Array Slot), lv_has ls 7 [(2, .int r4), (0, .ref h0), (1, .int p1), (3, .int q25.1), (4, .int q25.2.1)] → va_P D vwCl (WX11 cy h0 a0 q25.2.2) H → va_D A (WX11 cy h0 a0 q25.2.2) → va_S A s.heap H locs → ∀ (kk115 : ∀ (H : Heap) (locs : List Loc) (ls : Array Slot), lv_has ls 7 [(0, .ref h0), (3, .int o.1)] → va_P D vwCl (WX11 cy h0 a0 o.2) H → va_D A (WX11 cy h0 a0 o.2) → va_S A s.heap H locs → W p l e rmX11_lies s m args below meth c H locs 0 0 QQ (F0 m 115 ls [])), W p l e rmX11_lies s m args below meth c H locs 0 0 QQ (F0 m 25 ls []) := by
        intro n
        induction n with
        | zero => intro q25 o h; exact absurd h (by rw [loopO_zero]; intro z; cases z)
        | succ n ih =>
          intro q25 o h H locs ls hl hP hD hS kk115
          obtain ⟨w, h, hgo, hst⟩ := loopO_elim h
          unfold fX11_lies_L25 at h
          refine lv_iload hx hb dX11_lies_25 (lv_at hl 4 rfl) ?_
          refine lv_aload_n hx hb dX11_lies_27 rfl (lv_at hl 1 rfl) ?_
          refine va_get (D := D) (ci := 11) (v := .ref (a0 0)) (C := RX11) (T := TX11) (N := 38) hx hb hts hinX11 hown hK hP 0 rfl rfl 0 (by decide) (hts (.fieldLink RX11 7 "KneeBenchModel" "at" "[I") (List.mem_of_getElem? (i := 1) rfl)) (fun _ h9 => h9) rfl dX11_lies_28 ?_
          refine lv_iconst (v := 0) hx hb dX11_lies_31 (by decide) ?_
          refine va_iald hx hb hK hP 1 1 rfl rfl (inb_in (by decide)) dX11_lies_32 ?_
          refine lv_icmp_ge (tgt := 115) hx hb dX11_lies_33 (by decide) (fun c5 => ?_) (fun c5 => ?_)
          · replace h := (if_pos c5).symm.trans h
            have eo := hst _ (Option.some.inj h).symm
            subst eo
            exact kk115 H locs ls (lv_sub hl [1, 3] rfl) hP hD hS
          · replace h := (if_neg c5).symm.trans h
            refine lv_iconst (v := 0) hx hb dX11_lies_36 (by decide) ?_
            refine lv_istore (lv' := [(5, .int (0 : Int32)), (2, .int r4), (0, .ref h0), (1, .int p1), (3, .int q25.1), (4, .int q25.2.1)]) hx hb dX11_lies_37 hl (by decide) rfl (fun ls hl => ?_)
            have L39 : ∀ (n : Nat) (q39 : Int32 × Int32 × Rc) (o : Int32 × Rc), loopO (fX11_lies_L39 p1 r4 q25) n q39 = some o → ∀ (H : Heap) (locs : List Loc) (ls : Array Slot), lv_has ls 7 [(2, .int r4), (0, .ref h0), (1, .int p1), (4, .int q25.2.1), (3, .int q39.1), (5, .int q39.2.1)] → va_P D vwCl (WX11 cy h0 a0 q39.2.2) H → va_D A (WX11 cy h0 a0 q39.2.2) → va_S A s.heap H locs → ∀ (kk109 : ∀ (H : Heap) (locs : List Loc) (ls : Array Slot), lv_has ls 7 [(2, .int r4), (0, .ref h0), (1, .int p1), (4, .int q25.2.1), (3, .int o.1)] → va_P D vwCl (WX11 cy h0 a0 o.2) H → va_D A (WX11 cy h0 a0 o.2) → va_S A s.heap H locs → W p l e rmX11_lies s m args below meth c H locs 0 0 QQ (F0 m 109 ls [])), W p l e rmX11_lies s m args below meth c H locs 0 0 QQ (F0 m 39 ls []) := by
              intro n
              induction n with
              | zero => intro q39 o h; exact absurd h (by rw [loopO_zero]; intro z; cases z)
              | succ n ih =>
                intro q39 o h H locs ls hl hP hD hS kk109
                obtain ⟨w, h, hgo, hst⟩ := loopO_elim h
                unfold fX11_lies_L39 at h
                have J85 : ∀ (y85_5 : Int32) (y85_6 : Int32) (z85_0 : Int32) (t85_0 : Rc) (H : Heap) (locs : List Loc) (ls : Array Slot), lv_has ls 7 [(2, .int r4), (0, .ref h0), (1, .int p1), (4, .int q25.2.1), (5, .int y85_5), (6, .int y85_6)] → va_P D vwCl (WX11 cy h0 a0 t85_0) H → va_D A (WX11 cy h0 a0 t85_0) → va_S A s.heap H locs → fX11_lies_J85 p1 r4 y85_5 y85_6 z85_0 t85_0 = some w → W p l e rmX11_lies s m args below meth c H locs 0 0 QQ (F0 m 85 ls [.int z85_0]) := by
                  intro y85_5 y85_6 z85_0 t85_0 H locs ls hl hP hD hS h
                  unfold fX11_lies_J85 at h
                  refine lv_iload_n hx hb dX11_lies_85 rfl (lv_at hl 2 rfl) ?_
                  refine lv_iconst (v := 1) hx hb dX11_lies_86 (by decide) ?_
                  refine lv_icmp_ne (tgt := 100) hx hb dX11_lies_87 (by decide) (fun c6 => ?_) (fun c6 => ?_)
                  · replace h := (if_neg c6).symm.trans h
                    refine lv_iconst (v := 0) hx hb dX11_lies_100 (by decide) ?_
                    refine lv_iadd hx hb dX11_lies_101 ?_
                    refine lv_topi (fun x7 ex7 => ?_)
                    replace h := lt_use h x7 ex7
                    refine lv_istore_n (lv' := [(3, .int x7), (2, .int r4), (0, .ref h0), (1, .int p1), (4, .int q25.2.1), (5, .int y85_5), (6, .int y85_6)]) hx hb dX11_lies_102 rfl hl (by decide) rfl (fun ls hl => ?_)
                    refine lv_iinc (v := (y85_5 + (1 : Int32))) (lv' := [(5, .int (y85_5 + (1 : Int32))), (3, .int x7), (2, .int r4), (0, .ref h0), (1, .int p1), (4, .int q25.2.1), (6, .int y85_6)]) hx hb dX11_lies_103 hl (k := 5) rfl rfl (by decide) rfl (fun ls hl => ?_)
                    refine lv_goto (tgt := 39) hx hb dX11_lies_106 (by decide) ?_
                    exact ih _ o (hgo _ (Option.some.inj h).symm) H locs ls (lv_sub hl [2, 3, 4, 5, 1, 0] rfl) hP hD hS kk109
                  · replace h := (if_pos c6).symm.trans h
                    refine lv_iload hx hb dX11_lies_90 (lv_at hl 5 rfl) ?_
                    refine lv_iload_n hx hb dX11_lies_92 rfl (lv_at hl 0 rfl) ?_
                    refine lv_icmp_le (tgt := 100) hx hb dX11_lies_93 (by decide) (fun c8 => ?_) (fun c8 => ?_)
                    · replace h := (if_pos c8).symm.trans h
                      refine lv_iconst (v := 0) hx hb dX11_lies_100 (by decide) ?_
                      refine lv_iadd hx hb dX11_lies_101 ?_
                      refine lv_topi (fun x9 ex9 => ?_)
                      replace h := lt_use h x9 ex9
                      refine lv_istore_n (lv' := [(3, .int x9), (2, .int r4), (0, .ref h0), (1, .int p1), (4, .int q25.2.1), (5, .int y85_5), (6, .int y85_6)]) hx hb dX11_lies_102 rfl hl (by decide) rfl (fun ls hl => ?_)
                      refine lv_iinc (v := (y85_5 + (1 : Int32))) (lv' := [(5, .int (y85_5 + (1 : Int32))), (3, .int x9), (2, .int r4), (0, .ref h0), (1, .int p1), (4, .int q25.2.1), (6, .int y85_6)]) hx hb dX11_lies_103 hl (k := 5) rfl rfl (by decide) rfl (fun ls hl => ?_)
                      refine lv_goto (tgt := 39) hx hb dX11_lies_106 (by decide) ?_
                      exact ih _ o (hgo _ (Option.some.inj h).symm) H locs ls (lv_sub hl [2, 3, 4, 5, 1, 0] rfl) hP hD hS kk109
                    · replace h := (if_neg c8).symm.trans h
                      refine lv_iconst (v := 1) hx hb dX11_lies_96 (by decide) ?_
                      refine lv_goto (tgt := 101) hx hb dX11_lies_97 (by decide) ?_
                      refine lv_iadd hx hb dX11_lies_101 ?_
                      refine lv_topi (fun x10 ex10 => ?_)
                      replace h := lt_use h x10 ex10
                      refine lv_istore_n (lv' := [(3, .int x10), (2, .int r4), (0, .ref h0), (1, .int p1), (4, .int q25.2.1), (5, .int y85_5), (6, .int y85_6)]) hx hb dX11_lies_102 rfl hl (by decide) rfl (fun ls hl => ?_)
                      refine lv_iinc (v := (y85_5 + (1 : Int32))) (lv' := [(5, .int (y85_5 + (1 : Int32))), (3, .int x10), (2, .int r4), (0, .ref h0), (1, .int p1), (4, .int q25.2.1), (6, .int y85_6)]) hx hb dX11_lies_103 hl (k := 5) rfl rfl (by decide) rfl (fun ls hl => ?_)
                      refine lv_goto (tgt := 39) hx hb dX11_lies_106 (by decide) ?_
                      exact ih _ o (hgo _ (Option.some.inj h).symm) H locs ls (lv_sub hl [2, 3, 4, 5, 1, 0] rfl) hP hD hS kk109
                refine lv_iload hx hb dX11_lies_39 (lv_at hl 5 rfl) ?_
                refine lv_aload_n hx hb dX11_lies_41 rfl (lv_at hl 1 rfl) ?_
                refine va_get (D := D) (ci := 11) (v := .ref (a0 0)) (C := RX11) (T := TX11) (N := 38) hx hb hts hinX11 hown hK hP 0 rfl rfl 0 (by decide) (hts (.fieldLink RX11 7 "KneeBenchModel" "at" "[I") (List.mem_of_getElem? (i := 1) rfl)) (fun _ h9 => h9) rfl dX11_lies_42 ?_
                refine lv_iconst (v := 1) hx hb dX11_lies_45 (by decide) ?_
                refine va_iald hx hb hK hP 1 1 rfl rfl (inb_in (by decide)) dX11_lies_46 ?_
                refine lv_icmp_ge (tgt := 109) hx hb dX11_lies_47 (by decide) (fun c11 => ?_) (fun c11 => ?_)
                · replace h := (if_pos c11).symm.trans h
                  have eo := hst _ (Option.some.inj h).symm
                  subst eo
                  exact kk109 H locs ls (lv_sub hl [0, 1, 2, 3, 4] rfl) hP hD hS
                · replace h := (if_neg c11).symm.trans h
                  refine lv_aload_n hx hb dX11_lies_50 rfl (lv_at hl 1 rfl) ?_
                  refine lv_iload hx hb dX11_lies_51 (lv_at hl 3 rfl) ?_
                  refine lv_iload hx hb dX11_lies_53 (lv_at hl 5 rfl) ?_
                  obtain ⟨r12, hr12, h⟩ := bd_elim h
                  refine ca_i (w' := WX11 cy h0 a0 r12.2) (rn_V (As := [.int q25.2.1, .int q39.2.1]) (rest := []) ⟨hx, hb, hml, hown, hts⟩ (kX11_turnsRound l D cy h0 a0 q39.2.2 q25.2.1 q39.2.1 r12 hr12 H.size) (cwV 2 hts gX11_lies_X11_turnsRound rfl rfl rfl (by decide +kernel) ⟨Nat.le_of_ble_eq_true rfl, Nat.le_of_ble_eq_true rfl⟩) hK hN hP hD [0, 1, 2, 3, 4, 5, 6, 7, 8, 9, 10, 11, 12, 13] rfl rfl (ci := 11) (q0 := 0) rfl rfl rfl rfl hl.1 rfl (Nat.le_of_ble_eq_true rfl) dX11_lies_55 ⟨Nat.le_refl 0, Nat.le_refl 0⟩) hP hD hS hA [0, 1, 2, 3, 4, 5, 6, 7, 8, 9, 10, 11, 12, 13] ⟨rfl, rfl, rfl, rfl⟩ (fun H locs hP hD hS => ?_)
                  refine lv_pop hx hb dX11_lies_58 rfl ?_
                  refine lv_aload_n hx hb dX11_lies_59 rfl (lv_at hl 1 rfl) ?_
                  obtain ⟨r13, hr13, h⟩ := bd_elim h
                  refine ca_i (w' := WX11 cy h0 a0 r12.2) (rn_V (As := []) (rest := []) ⟨hx, hb, hml, hown, hts⟩ (kX11_keptOf l D cy h0 a0 r12.2 r13 hr13 H.size) (cwV 0 hts gX11_lies_X11_keptOf rfl rfl rfl (by decide +kernel) ⟨Nat.le_of_ble_eq_true rfl, Nat.le_of_ble_eq_true rfl⟩) hK hN hP hD [0, 1, 2, 3, 4, 5, 6, 7, 8, 9, 10, 11, 12, 13] rfl rfl (ci := 11) (q0 := 0) rfl rfl rfl rfl hl.1 rfl (Nat.le_of_ble_eq_true rfl) dX11_lies_60 ⟨Nat.le_refl 0, Nat.le_refl 0⟩) hP hD hS hA [0, 1, 2, 3, 4, 5, 6, 7, 8, 9, 10, 11, 12, 13] ⟨rfl, rfl, rfl, rfl⟩ (fun H locs hP hD hS => ?_)
                  refine lv_istore (lv' := [(6, .int r13), (2, .int r4), (0, .ref h0), (1, .int p1), (4, .int q25.2.1), (3, .int q39.1), (5, .int q39.2.1)]) hx hb dX11_lies_63 hl (by decide) rfl (fun ls hl => ?_)
                  refine lv_aload_n hx hb dX11_lies_65 rfl (lv_at hl 2 rfl) ?_
                  refine lv_iload hx hb dX11_lies_66 (lv_at hl 4 rfl) ?_
                  refine lv_iload hx hb dX11_lies_68 (lv_at hl 6 rfl) ?_
                  obtain ⟨r14, hr14, h⟩ := bd_elim h
                  refine ca_i (w' := WX11 cy h0 a0 r14.2) (rn_V (As := [.int q25.2.1, .int q39.2.1]) (rest := []) ⟨hx, hb, hml, hown, hts⟩ (kX11_turnsRound l D cy h0 a0 r12.2 q25.2.1 q39.2.1 r14 hr14 H.size) (cwV 2 hts gX11_lies_X11_turnsRound rfl rfl rfl (by decide +kernel) ⟨Nat.le_of_ble_eq_true rfl, Nat.le_of_ble_eq_true rfl⟩) hK hN hP hD [0, 1, 2, 3, 4, 5, 6, 7, 8, 9, 10, 11, 12, 13] rfl rfl (ci := 11) (q0 := 0) rfl rfl rfl rfl hl.1 rfl (Nat.le_of_ble_eq_true rfl) dX11_lies_70 ⟨Nat.le_refl 0, Nat.le_refl 0⟩) hP hD hS hA [0, 1, 2, 3, 4, 5, 6, 7, 8, 9, 10, 11, 12, 13] ⟨rfl, rfl, rfl, rfl⟩ (fun H locs hP hD hS => ?_)
                  refine lv_pop hx hb dX11_lies_73 rfl ?_
                  refine lv_iload_n hx hb dX11_lies_74 rfl (lv_at hl 5 rfl) ?_
                  refine lv_iload_n hx hb dX11_lies_75 rfl (lv_at hl 3 rfl) ?_
                  refine lv_if_ne (tgt := 85) hx hb dX11_lies_76 (by decide) (fun c15 => ?_) (fun c15 => ?_)
                  · replace h := (if_neg c15).symm.trans h
                    exact J85 q39.2.1 r13 q39.1 r14.2 H locs ls (lv_sub hl [1, 2, 3, 4, 6, 0] rfl) hP hD hS h
                  · replace h := (if_pos c15).symm.trans h
                    refine lv_iload hx hb dX11_lies_79 (lv_at hl 0 rfl) ?_
                    refine lv_iload_n hx hb dX11_lies_81 rfl (lv_at hl 1 rfl) ?_
                    refine lv_icmp_lt (tgt := 96) hx hb dX11_lies_82 (by decide) (fun c16 => ?_) (fun c16 => ?_)
                    · replace h := (if_pos c16).symm.trans h
                      refine lv_iconst (v := 1) hx hb dX11_lies_96 (by decide) ?_
                      refine lv_goto (tgt := 101) hx hb dX11_lies_97 (by decide) ?_
                      refine lv_iadd hx hb dX11_lies_101 ?_
                      refine lv_topi (fun x17 ex17 => ?_)
                      replace h := lt_use h x17 ex17
                      refine lv_istore_n (lv' := [(3, .int x17), (6, .int r13), (2, .int r4), (0, .ref h0), (1, .int p1), (4, .int q25.2.1), (5, .int q39.2.1)]) hx hb dX11_lies_102 rfl hl (by decide) rfl (fun ls hl => ?_)
                      refine lv_iinc (v := (q39.2.1 + (1 : Int32))) (lv' := [(5, .int (q39.2.1 + (1 : Int32))), (3, .int x17), (6, .int r13), (2, .int r4), (0, .ref h0), (1, .int p1), (4, .int q25.2.1)]) hx hb dX11_lies_103 hl (k := 6) rfl rfl (by decide) rfl (fun ls hl => ?_)
                      refine lv_goto (tgt := 39) hx hb dX11_lies_106 (by decide) ?_
                      exact ih _ o (hgo _ (Option.some.inj h).symm) H locs ls (lv_sub hl [3, 4, 5, 6, 1, 0] rfl) hP hD hS kk109
                    · replace h := (if_neg c16).symm.trans h
                      exact J85 q39.2.1 r13 q39.1 r14.2 H locs ls (lv_sub hl [1, 2, 3, 4, 6, 0] rfl) hP hD hS h
            obtain ⟨o39, ho39, h⟩ := bd_elim h
            obtain ⟨n39, hn39⟩ := loopF_some ho39
            refine L39 n39 _ o39 hn39 H locs ls (lv_sub hl [1, 2, 3, 5, 4, 0] rfl) hP hD hS (fun H locs ls hl hP hD hS => ?_)
            refine lv_iinc (v := (q25.2.1 + (1 : Int32))) (lv' := [(4, .int (q25.2.1 + (1 : Int32))), (2, .int r4), (0, .ref h0), (1, .int p1), (3, .int o39.1)]) hx hb dX11_lies_109 hl (k := 3) rfl rfl (by decide) rfl (fun ls hl => ?_)
            refine lv_goto (tgt := 25) hx hb dX11_lies_112 (by decide) ?_
            exact ih _ o (hgo _ (Option.some.inj h).symm) H locs ls (lv_sub hl [1, 2, 3, 4, 0] rfl) hP hD hS kk115
      obtain ⟨o25, ho25, h⟩ := bd_elim h
      obtain ⟨n25, hn25⟩ := loopF_some ho25
      refine L25 n25 _ o25 hn25 H locs ls (lv_sub hl [2, 3, 4, 1, 0] rfl) hP hD hS (fun H locs ls hl hP hD hS => ?_)
      refine lv_aload_n hx hb dX11_lies_115 rfl (lv_at hl 0 rfl) ?_
      refine lv_iload_n hx hb dX11_lies_116 rfl (lv_at hl 1 rfl) ?_
      obtain ⟨r18, hr18, h⟩ := lt_elim h
      refine ca_i (w' := WX11 cy h0 a0 r18.2) (rn_V (As := [.int o25.1]) (rest := []) ⟨hx, hb, hml, hown, hts⟩ (kX11_gives l D cy h0 a0 o25.2 o25.1 r18 hr18.symm H.size) (cwV 1 hts gX11_lies_X11_gives rfl rfl rfl (by decide +kernel) ⟨Nat.le_of_ble_eq_true rfl, Nat.le_of_ble_eq_true rfl⟩) hK hN hP hD [0, 1, 2, 3, 4, 5, 6, 7, 8, 9, 10, 11, 12, 13] rfl rfl (ci := 11) (q0 := 0) rfl rfl rfl rfl hl.1 rfl (Nat.le_of_ble_eq_true rfl) dX11_lies_117 ⟨Nat.le_refl 0, Nat.le_refl 0⟩) hP hD hS hA [0, 1, 2, 3, 4, 5, 6, 7, 8, 9, 10, 11, 12, 13] ⟨rfl, rfl, rfl, rfl⟩ (fun H locs hP hD hS => ?_)
      exact hret 120 H locs ls (r18.1, r18.2) (Option.some.inj h) hP hD hS dX11_lies_120
    · replace h := (if_neg c3).symm.trans h
      refine lv_aload_n hx hb dX11_lies_9 rfl (lv_at hl 0 rfl) ?_
      refine lv_iconst (v := 1) hx hb dX11_lies_10 (by decide) ?_
      obtain ⟨r19, hr19, h⟩ := lt_elim h
      refine ca_i (w' := WX11 cy h0 a0 r19.2) (rn_V (As := [.int (1 : Int32)]) (rest := []) ⟨hx, hb, hml, hown, hts⟩ (kX11_refuse l D cy h0 a0 s0 (1 : Int32) r19 hr19.symm H.size) (cwV 1 hts gX11_lies_X11_refuse rfl rfl rfl (by decide +kernel) ⟨Nat.le_of_ble_eq_true rfl, Nat.le_of_ble_eq_true rfl⟩) hK hN hP hD [0, 1, 2, 3, 4, 5, 6, 7, 8, 9, 10, 11, 12, 13] rfl rfl (ci := 11) (q0 := 0) rfl rfl rfl rfl hl.1 rfl (Nat.le_of_ble_eq_true rfl) dX11_lies_11 ⟨Nat.le_refl 0, Nat.le_refl 0⟩) hP hD hS hA [0, 1, 2, 3, 4, 5, 6, 7, 8, 9, 10, 11, 12, 13] ⟨rfl, rfl, rfl, rfl⟩ (fun H locs hP hD hS => ?_)
      exact hret 14 H locs ls (r19.1, r19.2) (Option.some.inj h) hP hD hS dX11_lies_14
set_option maxRecDepth 20000 in
theorem ggX11_lived_X11_refuse : GoodIn wsX11_lived wsX11_refuse := goodIn_r _ [7, 8, 13, 14, 15, 16, 17, 18, 19, 20, 21, 22, 23, 24, 25, 26, 27, 28, 29, 30, 31, 32, 33, 34, 35, 36, 37, 38, 39, 40, 41, 42, 43, 44, 45, 46, 47, 48, 49, 50] (by decide +kernel) (by decide +kernel)
set_option maxRecDepth 20000 in
theorem gX11_lived_X11_refuse : GoodIn wsX11_lived (wsV RX11 75 RX11 yX11_refuse wsX11_refuse) := goodIn_app (goodIn_of _ (by decide +kernel)) ggX11_lived_X11_refuse
set_option maxRecDepth 20000 in
theorem ggX11_lived_X11_gives : GoodIn wsX11_lived wsX11_gives := goodIn_r _ [12, 8, 13, 14, 15, 16, 17, 18, 19, 20, 21, 22, 23, 24, 25, 26, 27, 28, 29, 30, 31, 32, 33, 34, 35, 36, 37, 38, 39, 40, 41, 42, 43, 44, 45, 46, 47, 48, 49, 50] (by decide +kernel) (by decide +kernel)
set_option maxRecDepth 20000 in
theorem gX11_lived_X11_gives : GoodIn wsX11_lived (wsV RX11 79 RX11 yX11_gives wsX11_gives) := goodIn_app (goodIn_of _ (by decide +kernel)) ggX11_lived_X11_gives
theorem dX11_lived_0 : decode cX11_lived 0 = .ok (.iload_n 1, 1) := by decide +kernel
theorem dX11_lived_1 : decode cX11_lived 1 = .ok (.ifCond .lt 8, 3) := by decide +kernel
theorem dX11_lived_4 : decode cX11_lived 4 = .ok (.iload_n 1, 1) := by decide +kernel
theorem dX11_lived_5 : decode cX11_lived 5 = .ok (.iconst 3, 1) := by decide +kernel
theorem dX11_lived_6 : decode cX11_lived 6 = .ok (.if_icmp .le 11, 3) := by decide +kernel
theorem dX11_lived_9 : decode cX11_lived 9 = .ok (.aload_n 0, 1) := by decide +kernel
theorem dX11_lived_10 : decode cX11_lived 10 = .ok (.iconst 1, 1) := by decide +kernel
theorem dX11_lived_11 : decode cX11_lived 11 = .ok (.invokevirtual 75, 3) := by decide +kernel
theorem dX11_lived_14 : decode cX11_lived 14 = .ok (.goto 29, 3) := by decide +kernel
theorem dX11_lived_17 : decode cX11_lived 17 = .ok (.aload_n 0, 1) := by decide +kernel
theorem dX11_lived_18 : decode cX11_lived 18 = .ok (.getfield 413, 3) := by decide +kernel
theorem dX11_lived_21 : decode cX11_lived 21 = .ok (.ifCond .eq 16, 3) := by decide +kernel
theorem dX11_lived_24 : decode cX11_lived 24 = .ok (.aload_n 0, 1) := by decide +kernel
theorem dX11_lived_25 : decode cX11_lived 25 = .ok (.aload_n 0, 1) := by decide +kernel
theorem dX11_lived_26 : decode cX11_lived 26 = .ok (.getfield 62, 3) := by decide +kernel
theorem dX11_lived_29 : decode cX11_lived 29 = .ok (.iload_n 1, 1) := by decide +kernel
theorem dX11_lived_30 : decode cX11_lived 30 = .ok (.iaload, 1) := by decide +kernel
theorem dX11_lived_31 : decode cX11_lived 31 = .ok (.invokevirtual 79, 3) := by decide +kernel
theorem dX11_lived_34 : decode cX11_lived 34 = .ok (.goto 9, 3) := by decide +kernel
theorem dX11_lived_37 : decode cX11_lived 37 = .ok (.aload_n 0, 1) := by decide +kernel
theorem dX11_lived_38 : decode cX11_lived 38 = .ok (.bipush 6, 2) := by decide +kernel
theorem dX11_lived_40 : decode cX11_lived 40 = .ok (.invokevirtual 75, 3) := by decide +kernel
theorem dX11_lived_43 : decode cX11_lived 43 = .ok (.ireturn, 1) := by decide +kernel
noncomputable def fX11_lived (p1 : Int32) (s0 : Rc) : Option (Int32 × Rc) :=
if p1 < (0 : Int32) then (
lt_ (fX11_refuse (1 : Int32) s0) (fun r2 =>
some (r2.1, r2.2))) else (
if p1 ≤ (3 : Int32) then (
if (gi s0 36) = (0 : Int32) then (
lt_ (fX11_refuse (6 : Int32) s0) (fun r5 =>
some (r5.1, r5.2))) else (
gd (inb p1 4) (
lt_ (fX11_gives (ga s0 35 p1.toNatClampNeg) s0) (fun r7 =>
some (r7.1, r7.2))))) else (
lt_ (fX11_refuse (1 : Int32) s0) (fun r8 =>
some (r8.1, r8.2))))
abbrev rmX11_lived : Room := { frames := 1, cells := 0, slots := 0, locals := 21 }
set_option maxHeartbeats 4000000 in
set_option maxRecDepth 100000 in
theorem kX11_lived (l : Launch) (D : va_G) (cy : Nat → ClassId) (h0 : Nat) (a0 : Nat → Nat) (s0 : Rc) (p1 : Int32) (res : Int32 × Rc) (h : fX11_lived p1 s0 = some res) : CI l D cy yX11_lived wsX11_lived rmX11_lived [.ref h0, .int p1] (WX11 cy h0 a0 s0) (WX11 cy h0 a0 res.2) res.1 := by
  refine CI.of (cc := cX11_lived) (maxL := 2) (by decide) rfl (Nat.le_of_ble_eq_true rfl) ?_
  intro p e s m args below meth c A QQ ls E hr
  obtain ⟨hx, hb, hml, hown, hts, hK, hN, hP, hD, hA, hl⟩ := E
  have hret : ∀ (pc : Nat) (H : Heap) (locs : List Loc) (ls : Array Slot) (u : Int32 × Rc), u = res → va_P D vwCl (WX11 cy h0 a0 u.2) H → va_D A (WX11 cy h0 a0 u.2) → va_S A s.heap H locs → decode cX11_lived pc = .ok (.ireturn, 1) → W p l e rmX11_lived s m args below meth c H locs 0 0 QQ (F0 m pc ls [.int u.1]) := by
    intro pc H locs ls u hu hP hD hS hd; subst hu; exact hr pc H locs ls _ rfl hP hD hS hd
  clear hr
  have hl : lv_has ls 2 [(0, .ref h0), (1, .int p1)] := hl
  have hinX11 : ∀ w ∈ wsX110, w ∈ wsX11_lived := fun _ h => List.mem_cons_of_mem _ (List.mem_append_right _ h)
  unfold fX11_lived at h
  suffices key : ∀ (H : Heap) (locs : List Loc), va_P D vwCl (WX11 cy h0 a0 s0) H → va_S A s.heap H locs → W p l e rmX11_lived s m args below meth c H locs 0 0 QQ (F0 m 0 ls []) from key _ _ hP va_S.rf
  clear hP
  intro H locs hP hS
  refine lv_iload_n hx hb dX11_lived_0 rfl (lv_at hl 1 rfl) ?_
  refine lv_if_lt (tgt := 9) hx hb dX11_lived_1 (by decide) (fun c1 => ?_) (fun c1 => ?_)
  · replace h := (if_pos c1).symm.trans h
    refine lv_aload_n hx hb dX11_lived_9 rfl (lv_at hl 0 rfl) ?_
    refine lv_iconst (v := 1) hx hb dX11_lived_10 (by decide) ?_
    obtain ⟨r2, hr2, h⟩ := lt_elim h
    refine ca_i (w' := WX11 cy h0 a0 r2.2) (rn_V (As := [.int (1 : Int32)]) (rest := []) ⟨hx, hb, hml, hown, hts⟩ (kX11_refuse l D cy h0 a0 s0 (1 : Int32) r2 hr2.symm H.size) (cwV 1 hts gX11_lived_X11_refuse rfl rfl rfl (by decide +kernel) ⟨Nat.le_of_ble_eq_true rfl, Nat.le_of_ble_eq_true rfl⟩) hK hN hP hD [0, 1, 2, 3, 4, 5, 6, 7, 8, 9, 10, 11, 12, 13] rfl rfl (ci := 11) (q0 := 0) rfl rfl rfl rfl hl.1 rfl (Nat.le_of_ble_eq_true rfl) dX11_lived_11 ⟨Nat.le_refl 0, Nat.le_refl 0⟩) hP hD hS hA [0, 1, 2, 3, 4, 5, 6, 7, 8, 9, 10, 11, 12, 13] ⟨rfl, rfl, rfl, rfl⟩ (fun H locs hP hD hS => ?_)
    refine lv_goto (tgt := 43) hx hb dX11_lived_14 (by decide) ?_
    exact hret 43 H locs ls (r2.1, r2.2) (Option.some.inj h) hP hD hS dX11_lived_43
  · replace h := (if_neg c1).symm.trans h
    refine lv_iload_n hx hb dX11_lived_4 rfl (lv_at hl 1 rfl) ?_
    refine lv_iconst (v := 3) hx hb dX11_lived_5 (by decide) ?_
    refine lv_icmp_le (tgt := 17) hx hb dX11_lived_6 (by decide) (fun c3 => ?_) (fun c3 => ?_)
    · replace h := (if_pos c3).symm.trans h
      refine lv_aload_n hx hb dX11_lived_17 rfl (lv_at hl 0 rfl) ?_
      refine va_get (D := D) (ci := 11) (v := .int (gi s0 36)) (C := RX11) (T := TX11) (N := 38) hx hb hts hinX11 hown hK hP 0 rfl rfl 36 (by decide) (hts (.fieldLink RX11 413 "KneeBenchModel" "isTold" "Z") (List.mem_of_getElem? (i := 1) rfl)) (fun _ h9 => h9) rfl dX11_lived_18 ?_
      refine lv_if_eq (tgt := 37) hx hb dX11_lived_21 (by decide) (fun c4 => ?_) (fun c4 => ?_)
      · replace h := (if_pos c4).symm.trans h
        refine lv_aload_n hx hb dX11_lived_37 rfl (lv_at hl 0 rfl) ?_
        refine lv_bipush (v := 6) hx hb dX11_lived_38 (by decide) ?_
        obtain ⟨r5, hr5, h⟩ := lt_elim h
        refine ca_i (w' := WX11 cy h0 a0 r5.2) (rn_V (As := [.int (6 : Int32)]) (rest := []) ⟨hx, hb, hml, hown, hts⟩ (kX11_refuse l D cy h0 a0 s0 (6 : Int32) r5 hr5.symm H.size) (cwV 1 hts gX11_lived_X11_refuse rfl rfl rfl (by decide +kernel) ⟨Nat.le_of_ble_eq_true rfl, Nat.le_of_ble_eq_true rfl⟩) hK hN hP hD [0, 1, 2, 3, 4, 5, 6, 7, 8, 9, 10, 11, 12, 13] rfl rfl (ci := 11) (q0 := 0) rfl rfl rfl rfl hl.1 rfl (Nat.le_of_ble_eq_true rfl) dX11_lived_40 ⟨Nat.le_refl 0, Nat.le_refl 0⟩) hP hD hS hA [0, 1, 2, 3, 4, 5, 6, 7, 8, 9, 10, 11, 12, 13] ⟨rfl, rfl, rfl, rfl⟩ (fun H locs hP hD hS => ?_)
        exact hret 43 H locs ls (r5.1, r5.2) (Option.some.inj h) hP hD hS dX11_lived_43
      · replace h := (if_neg c4).symm.trans h
        refine lv_aload_n hx hb dX11_lived_24 rfl (lv_at hl 0 rfl) ?_
        refine lv_aload_n hx hb dX11_lived_25 rfl (lv_at hl 0 rfl) ?_
        refine va_get (D := D) (ci := 11) (v := .ref (a0 35)) (C := RX11) (T := TX11) (N := 38) hx hb hts hinX11 hown hK hP 0 rfl rfl 35 (by decide) (hts (.fieldLink RX11 62 "KneeBenchModel" "told0" "[I") (List.mem_of_getElem? (i := 2) rfl)) (fun _ h9 => h9) rfl dX11_lived_26 ?_
        refine lv_iload_n hx hb dX11_lived_29 rfl (lv_at hl 1 rfl) ?_
        obtain ⟨g6, h⟩ := gd_elim h
        refine va_iald hx hb hK hP 13 1 rfl rfl (inb_in g6) dX11_lived_30 ?_
        obtain ⟨r7, hr7, h⟩ := lt_elim h
        refine ca_i (w' := WX11 cy h0 a0 r7.2) (rn_V (As := [.int (ga s0 35 p1.toNatClampNeg)]) (rest := []) ⟨hx, hb, hml, hown, hts⟩ (kX11_gives l D cy h0 a0 s0 (ga s0 35 p1.toNatClampNeg) r7 hr7.symm H.size) (cwV 1 hts gX11_lived_X11_gives rfl rfl rfl (by decide +kernel) ⟨Nat.le_of_ble_eq_true rfl, Nat.le_of_ble_eq_true rfl⟩) hK hN hP hD [0, 1, 2, 3, 4, 5, 6, 7, 8, 9, 10, 11, 12, 13] rfl rfl (ci := 11) (q0 := 0) rfl rfl rfl rfl hl.1 rfl (Nat.le_of_ble_eq_true rfl) dX11_lived_31 ⟨Nat.le_refl 0, Nat.le_refl 0⟩) hP hD hS hA [0, 1, 2, 3, 4, 5, 6, 7, 8, 9, 10, 11, 12, 13] ⟨rfl, rfl, rfl, rfl⟩ (fun H locs hP hD hS => ?_)
        refine lv_goto (tgt := 43) hx hb dX11_lived_34 (by decide) ?_
        exact hret 43 H locs ls (r7.1, r7.2) (Option.some.inj h) hP hD hS dX11_lived_43
    · replace h := (if_neg c3).symm.trans h
      refine lv_aload_n hx hb dX11_lived_9 rfl (lv_at hl 0 rfl) ?_
      refine lv_iconst (v := 1) hx hb dX11_lived_10 (by decide) ?_
      obtain ⟨r8, hr8, h⟩ := lt_elim h
      refine ca_i (w' := WX11 cy h0 a0 r8.2) (rn_V (As := [.int (1 : Int32)]) (rest := []) ⟨hx, hb, hml, hown, hts⟩ (kX11_refuse l D cy h0 a0 s0 (1 : Int32) r8 hr8.symm H.size) (cwV 1 hts gX11_lived_X11_refuse rfl rfl rfl (by decide +kernel) ⟨Nat.le_of_ble_eq_true rfl, Nat.le_of_ble_eq_true rfl⟩) hK hN hP hD [0, 1, 2, 3, 4, 5, 6, 7, 8, 9, 10, 11, 12, 13] rfl rfl (ci := 11) (q0 := 0) rfl rfl rfl rfl hl.1 rfl (Nat.le_of_ble_eq_true rfl) dX11_lived_11 ⟨Nat.le_refl 0, Nat.le_refl 0⟩) hP hD hS hA [0, 1, 2, 3, 4, 5, 6, 7, 8, 9, 10, 11, 12, 13] ⟨rfl, rfl, rfl, rfl⟩ (fun H locs hP hD hS => ?_)
      refine lv_goto (tgt := 43) hx hb dX11_lived_14 (by decide) ?_
      exact hret 43 H locs ls (r8.1, r8.2) (Option.some.inj h) hP hD hS dX11_lived_43
set_option maxRecDepth 20000 in
theorem ggX11_mark_X11_refuse : GoodIn wsX11_mark wsX11_refuse := goodIn_r _ [6, 7, 18, 19, 20, 21, 22, 23, 24, 25, 26, 27, 28, 29, 30, 31, 32, 33, 34, 35, 36, 37, 38, 39, 40, 41, 42, 43, 44, 45, 46, 47, 48, 49, 50, 51, 52, 53, 54, 55] (by decide +kernel) (by decide +kernel)
set_option maxRecDepth 20000 in
theorem gX11_mark_X11_refuse : GoodIn wsX11_mark (wsV RX11 75 RX11 yX11_refuse wsX11_refuse) := goodIn_app (goodIn_of _ (by decide +kernel)) ggX11_mark_X11_refuse
set_option maxRecDepth 20000 in
theorem ggX11_mark_X11_copies : GoodIn wsX11_mark wsX11_copies := goodIn_r _ [11, 12, 13, 18, 19, 20, 21, 22, 23, 24, 25, 26, 27, 28, 29, 30, 31, 32, 33, 34, 35, 36, 37, 38, 39, 40, 41, 42, 43, 44, 45, 46, 47, 48, 49, 50, 51, 52, 53, 54, 55] (by decide +kernel) (by decide +kernel)
set_option maxRecDepth 20000 in
theorem gX11_mark_X11_copies : GoodIn wsX11_mark (wsV RX11 421 RX11 yX11_copies wsX11_copies) := goodIn_app (goodIn_of _ (by decide +kernel)) ggX11_mark_X11_copies
set_option maxRecDepth 20000 in
theorem ggX11_mark_X11_gives : GoodIn wsX11_mark wsX11_gives := goodIn_r _ [17, 7, 18, 19, 20, 21, 22, 23, 24, 25, 26, 27, 28, 29, 30, 31, 32, 33, 34, 35, 36, 37, 38, 39, 40, 41, 42, 43, 44, 45, 46, 47, 48, 49, 50, 51, 52, 53, 54, 55] (by decide +kernel) (by decide +kernel)
set_option maxRecDepth 20000 in
theorem gX11_mark_X11_gives : GoodIn wsX11_mark (wsV RX11 79 RX11 yX11_gives wsX11_gives) := goodIn_app (goodIn_of _ (by decide +kernel)) ggX11_mark_X11_gives
theorem dX11_mark_0 : decode cX11_mark 0 = .ok (.aload_n 0, 1) := by decide +kernel
theorem dX11_mark_1 : decode cX11_mark 1 = .ok (.getfield 418, 3) := by decide +kernel
theorem dX11_mark_4 : decode cX11_mark 4 = .ok (.iconst 3, 1) := by decide +kernel
theorem dX11_mark_5 : decode cX11_mark 5 = .ok (.if_icmp .ne 9, 3) := by decide +kernel
theorem dX11_mark_8 : decode cX11_mark 8 = .ok (.aload_n 0, 1) := by decide +kernel
theorem dX11_mark_9 : decode cX11_mark 9 = .ok (.iconst 4, 1) := by decide +kernel
theorem dX11_mark_10 : decode cX11_mark 10 = .ok (.invokevirtual 75, 3) := by decide +kernel
theorem dX11_mark_13 : decode cX11_mark 13 = .ok (.ireturn, 1) := by decide +kernel
theorem dX11_mark_14 : decode cX11_mark 14 = .ok (.aload_n 0, 1) := by decide +kernel
theorem dX11_mark_15 : decode cX11_mark 15 = .ok (.dup, 1) := by decide +kernel
theorem dX11_mark_16 : decode cX11_mark 16 = .ok (.getfield 418, 3) := by decide +kernel
theorem dX11_mark_19 : decode cX11_mark 19 = .ok (.iconst 1, 1) := by decide +kernel
theorem dX11_mark_20 : decode cX11_mark 20 = .ok (.iadd, 1) := by decide +kernel
theorem dX11_mark_21 : decode cX11_mark 21 = .ok (.putfield 418, 3) := by decide +kernel
theorem dX11_mark_24 : decode cX11_mark 24 = .ok (.aload_n 0, 1) := by decide +kernel
theorem dX11_mark_25 : decode cX11_mark 25 = .ok (.iconst 0, 1) := by decide +kernel
theorem dX11_mark_26 : decode cX11_mark 26 = .ok (.aload_n 0, 1) := by decide +kernel
theorem dX11_mark_27 : decode cX11_mark 27 = .ok (.getfield 418, 3) := by decide +kernel
theorem dX11_mark_30 : decode cX11_mark 30 = .ok (.invokevirtual 421, 3) := by decide +kernel
theorem dX11_mark_33 : decode cX11_mark 33 = .ok (.aload_n 0, 1) := by decide +kernel
theorem dX11_mark_34 : decode cX11_mark 34 = .ok (.aload_n 0, 1) := by decide +kernel
theorem dX11_mark_35 : decode cX11_mark 35 = .ok (.getfield 418, 3) := by decide +kernel
theorem dX11_mark_38 : decode cX11_mark 38 = .ok (.invokevirtual 79, 3) := by decide +kernel
theorem dX11_mark_41 : decode cX11_mark 41 = .ok (.ireturn, 1) := by decide +kernel
noncomputable def fX11_mark (s0 : Rc) : Option (Int32 × Rc) :=
if (gi s0 37) = (3 : Int32) then (
lt_ (fX11_refuse (4 : Int32) s0) (fun r5 =>
some (r5.1, r5.2))) else (
lt_ (si s0 37 ((gi s0 37) + (1 : Int32))) (fun s0_2 =>
(fX11_copies (0 : Int32) (gi s0_2 37) s0_2).bind (fun r3 =>
lt_ (fX11_gives (gi r3 37) r3) (fun r4 =>
some (r4.1, r4.2)))))
abbrev rmX11_mark : Room := { frames := 1, cells := 0, slots := 0, locals := 23 }
set_option maxHeartbeats 4000000 in
set_option maxRecDepth 100000 in
theorem kX11_mark (l : Launch) (D : va_G) (cy : Nat → ClassId) (h0 : Nat) (a0 : Nat → Nat) (s0 : Rc) (res : Int32 × Rc) (h : fX11_mark s0 = some res) : CI l D cy yX11_mark wsX11_mark rmX11_mark [.ref h0] (WX11 cy h0 a0 s0) (WX11 cy h0 a0 res.2) res.1 := by
  refine CI.of (cc := cX11_mark) (maxL := 1) (by decide) rfl (Nat.le_of_ble_eq_true rfl) ?_
  intro p e s m args below meth c A QQ ls E hr
  obtain ⟨hx, hb, hml, hown, hts, hK, hN, hP, hD, hA, hl⟩ := E
  have hret : ∀ (pc : Nat) (H : Heap) (locs : List Loc) (ls : Array Slot) (u : Int32 × Rc), u = res → va_P D vwCl (WX11 cy h0 a0 u.2) H → va_D A (WX11 cy h0 a0 u.2) → va_S A s.heap H locs → decode cX11_mark pc = .ok (.ireturn, 1) → W p l e rmX11_mark s m args below meth c H locs 0 0 QQ (F0 m pc ls [.int u.1]) := by
    intro pc H locs ls u hu hP hD hS hd; subst hu; exact hr pc H locs ls _ rfl hP hD hS hd
  clear hr
  have hl : lv_has ls 1 [(0, .ref h0)] := hl
  have hinX11 : ∀ w ∈ wsX110, w ∈ wsX11_mark := fun _ h => List.mem_cons_of_mem _ (List.mem_append_right _ h)
  unfold fX11_mark at h
  suffices key : ∀ (H : Heap) (locs : List Loc), va_P D vwCl (WX11 cy h0 a0 s0) H → va_S A s.heap H locs → W p l e rmX11_mark s m args below meth c H locs 0 0 QQ (F0 m 0 ls []) from key _ _ hP va_S.rf
  clear hP
  intro H locs hP hS
  refine lv_aload_n hx hb dX11_mark_0 rfl (lv_at hl 0 rfl) ?_
  refine va_get (D := D) (ci := 11) (v := .int (gi s0 37)) (C := RX11) (T := TX11) (N := 38) hx hb hts hinX11 hown hK hP 0 rfl rfl 37 (by decide) (hts (.fieldLink RX11 418 "KneeBenchModel" "marks" "I") (List.mem_of_getElem? (i := 1) rfl)) (fun _ h9 => h9) rfl dX11_mark_1 ?_
  refine lv_iconst (v := 3) hx hb dX11_mark_4 (by decide) ?_
  refine lv_icmp_ne (tgt := 14) hx hb dX11_mark_5 (by decide) (fun c1 => ?_) (fun c1 => ?_)
  · replace h := (if_neg c1).symm.trans h
    refine lv_aload_n hx hb dX11_mark_14 rfl (lv_at hl 0 rfl) ?_
    refine lv_dup hx hb dX11_mark_15 rfl ?_
    refine va_get (D := D) (ci := 11) (v := .int (gi s0 37)) (C := RX11) (T := TX11) (N := 38) hx hb hts hinX11 hown hK hP 0 rfl rfl 37 (by decide) (hts (.fieldLink RX11 418 "KneeBenchModel" "marks" "I") (List.mem_of_getElem? (i := 1) rfl)) (fun _ h9 => h9) rfl dX11_mark_16 ?_
    refine lv_iconst (v := 1) hx hb dX11_mark_19 (by decide) ?_
    refine lv_iadd hx hb dX11_mark_20 ?_
    obtain ⟨s0_2, es, h⟩ := lt_elim h
    refine va_put (D := D) (ci := 11) (v := .int ((gi s0 37) + (1 : Int32))) (ty := .int) (C := RX11) (T := TX11) (N := 38) hx hb hts hinX11 tyX11 tyX11_ok nmX11 hown hK hP hD hS 0 rfl rfl 37 (by decide) (hts (.fieldLink RX11 418 "KneeBenchModel" "marks" "I") (List.mem_of_getElem? (i := 1) rfl)) (fun _ h9 => h9) rfl (by decide +kernel) rfl rfl (Nat.le_of_ble_eq_true rfl) dX11_mark_21 (fun H locs hP hD hS => ?_)
    have hP : va_P D vwCl (WX11 cy h0 a0 s0_2) H := by rw [es]; exact hP
    have hD : va_D A (WX11 cy h0 a0 s0_2) := by rw [es]; exact hD
    clear es
    refine lv_aload_n hx hb dX11_mark_24 rfl (lv_at hl 0 rfl) ?_
    refine lv_iconst (v := 0) hx hb dX11_mark_25 (by decide) ?_
    refine lv_aload_n hx hb dX11_mark_26 rfl (lv_at hl 0 rfl) ?_
    refine va_get (D := D) (ci := 11) (v := .int (gi s0_2 37)) (C := RX11) (T := TX11) (N := 38) hx hb hts hinX11 hown hK hP 0 rfl rfl 37 (by decide) (hts (.fieldLink RX11 418 "KneeBenchModel" "marks" "I") (List.mem_of_getElem? (i := 1) rfl)) (fun _ h9 => h9) rfl dX11_mark_27 ?_
    obtain ⟨r3, hr3, h⟩ := bd_elim h
    refine ca_v (w' := WX11 cy h0 a0 r3) (rn_V (As := [.int (0 : Int32), .int (gi s0_2 37)]) (rest := []) ⟨hx, hb, hml, hown, hts⟩ (kX11_copies l D cy h0 a0 s0_2 (0 : Int32) (gi s0_2 37) r3 hr3 H.size) (cwV 2 hts gX11_mark_X11_copies rfl rfl rfl (by decide +kernel) ⟨Nat.le_of_ble_eq_true rfl, Nat.le_of_ble_eq_true rfl⟩) hK hN hP hD [0, 1, 2, 3, 4, 5, 6, 7, 8, 9, 10, 11, 12, 13] rfl rfl (ci := 11) (q0 := 0) rfl rfl rfl rfl hl.1 rfl (Nat.le_of_ble_eq_true rfl) dX11_mark_30 ⟨Nat.le_refl 0, Nat.le_refl 0⟩) hP hD hS hA [0, 1, 2, 3, 4, 5, 6, 7, 8, 9, 10, 11, 12, 13] ⟨rfl, rfl, rfl, rfl⟩ (fun H locs hP hD hS => ?_)
    refine lv_aload_n hx hb dX11_mark_33 rfl (lv_at hl 0 rfl) ?_
    refine lv_aload_n hx hb dX11_mark_34 rfl (lv_at hl 0 rfl) ?_
    refine va_get (D := D) (ci := 11) (v := .int (gi r3 37)) (C := RX11) (T := TX11) (N := 38) hx hb hts hinX11 hown hK hP 0 rfl rfl 37 (by decide) (hts (.fieldLink RX11 418 "KneeBenchModel" "marks" "I") (List.mem_of_getElem? (i := 1) rfl)) (fun _ h9 => h9) rfl dX11_mark_35 ?_
    obtain ⟨r4, hr4, h⟩ := lt_elim h
    refine ca_i (w' := WX11 cy h0 a0 r4.2) (rn_V (As := [.int (gi r3 37)]) (rest := []) ⟨hx, hb, hml, hown, hts⟩ (kX11_gives l D cy h0 a0 r3 (gi r3 37) r4 hr4.symm H.size) (cwV 1 hts gX11_mark_X11_gives rfl rfl rfl (by decide +kernel) ⟨Nat.le_of_ble_eq_true rfl, Nat.le_of_ble_eq_true rfl⟩) hK hN hP hD [0, 1, 2, 3, 4, 5, 6, 7, 8, 9, 10, 11, 12, 13] rfl rfl (ci := 11) (q0 := 0) rfl rfl rfl rfl hl.1 rfl (Nat.le_of_ble_eq_true rfl) dX11_mark_38 ⟨Nat.le_refl 0, Nat.le_refl 0⟩) hP hD hS hA [0, 1, 2, 3, 4, 5, 6, 7, 8, 9, 10, 11, 12, 13] ⟨rfl, rfl, rfl, rfl⟩ (fun H locs hP hD hS => ?_)
    exact hret 41 H locs ls (r4.1, r4.2) (Option.some.inj h) hP hD hS dX11_mark_41
  · replace h := (if_pos c1).symm.trans h
    refine lv_aload_n hx hb dX11_mark_8 rfl (lv_at hl 0 rfl) ?_
    refine lv_iconst (v := 4) hx hb dX11_mark_9 (by decide) ?_
    obtain ⟨r5, hr5, h⟩ := lt_elim h
    refine ca_i (w' := WX11 cy h0 a0 r5.2) (rn_V (As := [.int (4 : Int32)]) (rest := []) ⟨hx, hb, hml, hown, hts⟩ (kX11_refuse l D cy h0 a0 s0 (4 : Int32) r5 hr5.symm H.size) (cwV 1 hts gX11_mark_X11_refuse rfl rfl rfl (by decide +kernel) ⟨Nat.le_of_ble_eq_true rfl, Nat.le_of_ble_eq_true rfl⟩) hK hN hP hD [0, 1, 2, 3, 4, 5, 6, 7, 8, 9, 10, 11, 12, 13] rfl rfl (ci := 11) (q0 := 0) rfl rfl rfl rfl hl.1 rfl (Nat.le_of_ble_eq_true rfl) dX11_mark_10 ⟨Nat.le_refl 0, Nat.le_refl 0⟩) hP hD hS hA [0, 1, 2, 3, 4, 5, 6, 7, 8, 9, 10, 11, 12, 13] ⟨rfl, rfl, rfl, rfl⟩ (fun H locs hP hD hS => ?_)
    exact hret 13 H locs ls (r5.1, r5.2) (Option.some.inj h) hP hD hS dX11_mark_13
set_option maxRecDepth 20000 in
theorem ggX11_mood_X11_isFarmer : GoodIn wsX11_mood wsX11_isFarmer := goodIn_r _ [6, 1, 16, 17, 18, 19, 20, 21, 22, 23, 24, 25, 26, 27, 28, 29, 30, 31, 32, 33, 34, 35, 36, 37, 38, 39, 40, 41, 42, 43, 44, 45, 46, 47, 48, 49, 50, 51, 52, 53] (by decide +kernel) (by decide +kernel)
set_option maxRecDepth 20000 in
theorem gX11_mood_X11_isFarmer : GoodIn wsX11_mood (wsV RX11 267 RX11 yX11_isFarmer wsX11_isFarmer) := goodIn_app (goodIn_of _ (by decide +kernel)) ggX11_mood_X11_isFarmer
set_option maxRecDepth 20000 in
theorem ggX11_mood_X11_refuse : GoodIn wsX11_mood wsX11_refuse := goodIn_r _ [10, 11, 16, 17, 18, 19, 20, 21, 22, 23, 24, 25, 26, 27, 28, 29, 30, 31, 32, 33, 34, 35, 36, 37, 38, 39, 40, 41, 42, 43, 44, 45, 46, 47, 48, 49, 50, 51, 52, 53] (by decide +kernel) (by decide +kernel)
set_option maxRecDepth 20000 in
theorem gX11_mood_X11_refuse : GoodIn wsX11_mood (wsV RX11 75 RX11 yX11_refuse wsX11_refuse) := goodIn_app (goodIn_of _ (by decide +kernel)) ggX11_mood_X11_refuse
set_option maxRecDepth 20000 in
theorem ggX11_mood_X11_gives : GoodIn wsX11_mood wsX11_gives := goodIn_r _ [15, 11, 16, 17, 18, 19, 20, 21, 22, 23, 24, 25, 26, 27, 28, 29, 30, 31, 32, 33, 34, 35, 36, 37, 38, 39, 40, 41, 42, 43, 44, 45, 46, 47, 48, 49, 50, 51, 52, 53] (by decide +kernel) (by decide +kernel)
set_option maxRecDepth 20000 in
theorem gX11_mood_X11_gives : GoodIn wsX11_mood (wsV RX11 79 RX11 yX11_gives wsX11_gives) := goodIn_app (goodIn_of _ (by decide +kernel)) ggX11_mood_X11_gives
theorem dX11_mood_0 : decode cX11_mood 0 = .ok (.aload_n 0, 1) := by decide +kernel
theorem dX11_mood_1 : decode cX11_mood 1 = .ok (.iload_n 1, 1) := by decide +kernel
theorem dX11_mood_2 : decode cX11_mood 2 = .ok (.invokevirtual 267, 3) := by decide +kernel
theorem dX11_mood_5 : decode cX11_mood 5 = .ok (.ifCond .ne 9, 3) := by decide +kernel
theorem dX11_mood_8 : decode cX11_mood 8 = .ok (.aload_n 0, 1) := by decide +kernel
theorem dX11_mood_9 : decode cX11_mood 9 = .ok (.iconst 1, 1) := by decide +kernel
theorem dX11_mood_10 : decode cX11_mood 10 = .ok (.invokevirtual 75, 3) := by decide +kernel
theorem dX11_mood_13 : decode cX11_mood 13 = .ok (.ireturn, 1) := by decide +kernel
theorem dX11_mood_14 : decode cX11_mood 14 = .ok (.iconst 0, 1) := by decide +kernel
theorem dX11_mood_15 : decode cX11_mood 15 = .ok (.istore_n 2, 1) := by decide +kernel
theorem dX11_mood_16 : decode cX11_mood 16 = .ok (.iconst 0, 1) := by decide +kernel
theorem dX11_mood_17 : decode cX11_mood 17 = .ok (.istore_n 3, 1) := by decide +kernel
theorem dX11_mood_18 : decode cX11_mood 18 = .ok (.iload_n 3, 1) := by decide +kernel
theorem dX11_mood_19 : decode cX11_mood 19 = .ok (.aload_n 0, 1) := by decide +kernel
theorem dX11_mood_20 : decode cX11_mood 20 = .ok (.getfield 7, 3) := by decide +kernel
theorem dX11_mood_23 : decode cX11_mood 23 = .ok (.iconst 0, 1) := by decide +kernel
theorem dX11_mood_24 : decode cX11_mood 24 = .ok (.iaload, 1) := by decide +kernel
theorem dX11_mood_25 : decode cX11_mood 25 = .ok (.if_icmp .ge 26, 3) := by decide +kernel
theorem dX11_mood_28 : decode cX11_mood 28 = .ok (.iload_n 2, 1) := by decide +kernel
theorem dX11_mood_29 : decode cX11_mood 29 = .ok (.aload_n 0, 1) := by decide +kernel
theorem dX11_mood_30 : decode cX11_mood 30 = .ok (.getfield 7, 3) := by decide +kernel
theorem dX11_mood_33 : decode cX11_mood 33 = .ok (.bipush 58, 2) := by decide +kernel
theorem dX11_mood_35 : decode cX11_mood 35 = .ok (.bipush 8, 2) := by decide +kernel
theorem dX11_mood_37 : decode cX11_mood 37 = .ok (.iload_n 1, 1) := by decide +kernel
theorem dX11_mood_38 : decode cX11_mood 38 = .ok (.imul, 1) := by decide +kernel
theorem dX11_mood_39 : decode cX11_mood 39 = .ok (.iadd, 1) := by decide +kernel
theorem dX11_mood_40 : decode cX11_mood 40 = .ok (.iload_n 3, 1) := by decide +kernel
theorem dX11_mood_41 : decode cX11_mood 41 = .ok (.iadd, 1) := by decide +kernel
theorem dX11_mood_42 : decode cX11_mood 42 = .ok (.iaload, 1) := by decide +kernel
theorem dX11_mood_43 : decode cX11_mood 43 = .ok (.iadd, 1) := by decide +kernel
theorem dX11_mood_44 : decode cX11_mood 44 = .ok (.istore_n 2, 1) := by decide +kernel
theorem dX11_mood_45 : decode cX11_mood 45 = .ok (.iinc 3 1, 3) := by decide +kernel
theorem dX11_mood_48 : decode cX11_mood 48 = .ok (.goto (-30), 3) := by decide +kernel
theorem dX11_mood_51 : decode cX11_mood 51 = .ok (.aload_n 0, 1) := by decide +kernel
theorem dX11_mood_52 : decode cX11_mood 52 = .ok (.iload_n 2, 1) := by decide +kernel
theorem dX11_mood_53 : decode cX11_mood 53 = .ok (.invokevirtual 79, 3) := by decide +kernel
theorem dX11_mood_56 : decode cX11_mood 56 = .ok (.ireturn, 1) := by decide +kernel
noncomputable def fX11_mood_L18 (p1 : Int32) (s0 : Rc) (q18 : Int32 × Int32) : Option ((Int32 × Int32) ⊕ Int32) :=
if (ga s0 0 (0 : Int32).toNatClampNeg) ≤ q18.2 then (
some (.inr q18.1)) else (
gd (inb (((58 : Int32) + ((8 : Int32) * p1)) + q18.2) 6240) (
lt_ (q18.1 + (ga s0 0 (((58 : Int32) + ((8 : Int32) * p1)) + q18.2).toNatClampNeg)) (fun x5 =>
some (.inl (x5, (q18.2 + (1 : Int32)))))))
noncomputable def fX11_mood (p1 : Int32) (s0 : Rc) : Option (Int32 × Rc) :=
if (fX11_isFarmer p1 s0) = (0 : Int32) then (
lt_ (fX11_refuse (1 : Int32) s0) (fun r7 =>
some (r7.1, r7.2))) else (
(loopF (fX11_mood_L18 p1 s0) ((0 : Int32), (0 : Int32))).bind (fun o18 =>
lt_ (fX11_gives o18 s0) (fun r6 =>
some (r6.1, r6.2))))
abbrev rmX11_mood : Room := { frames := 1, cells := 0, slots := 0, locals := 21 }
set_option maxHeartbeats 4000000 in
set_option maxRecDepth 100000 in
theorem kX11_mood (l : Launch) (D : va_G) (cy : Nat → ClassId) (h0 : Nat) (a0 : Nat → Nat) (s0 : Rc) (p1 : Int32) (res : Int32 × Rc) (h : fX11_mood p1 s0 = some res) : CI l D cy yX11_mood wsX11_mood rmX11_mood [.ref h0, .int p1] (WX11 cy h0 a0 s0) (WX11 cy h0 a0 res.2) res.1 := by
  refine CI.of (cc := cX11_mood) (maxL := 4) (by decide) rfl (Nat.le_of_ble_eq_true rfl) ?_
  intro p e s m args below meth c A QQ ls E hr
  obtain ⟨hx, hb, hml, hown, hts, hK, hN, hP, hD, hA, hl⟩ := E
  have hret : ∀ (pc : Nat) (H : Heap) (locs : List Loc) (ls : Array Slot) (u : Int32 × Rc), u = res → va_P D vwCl (WX11 cy h0 a0 u.2) H → va_D A (WX11 cy h0 a0 u.2) → va_S A s.heap H locs → decode cX11_mood pc = .ok (.ireturn, 1) → W p l e rmX11_mood s m args below meth c H locs 0 0 QQ (F0 m pc ls [.int u.1]) := by
    intro pc H locs ls u hu hP hD hS hd; subst hu; exact hr pc H locs ls _ rfl hP hD hS hd
  clear hr
  have hl : lv_has ls 4 [(0, .ref h0), (1, .int p1)] := hl
  have hinX11 : ∀ w ∈ wsX110, w ∈ wsX11_mood := fun _ h => List.mem_cons_of_mem _ (List.mem_append_right _ h)
  unfold fX11_mood at h
  suffices key : ∀ (H : Heap) (locs : List Loc), va_P D vwCl (WX11 cy h0 a0 s0) H → va_S A s.heap H locs → W p l e rmX11_mood s m args below meth c H locs 0 0 QQ (F0 m 0 ls []) from key _ _ hP va_S.rf
  clear hP
  intro H locs hP hS
  refine lv_aload_n hx hb dX11_mood_0 rfl (lv_at hl 0 rfl) ?_
  refine lv_iload_n hx hb dX11_mood_1 rfl (lv_at hl 1 rfl) ?_
  refine ca_z (w' := WX11 cy h0 a0 s0) (rn_V (As := [.int p1]) (rest := []) ⟨hx, hb, hml, hown, hts⟩ (kX11_isFarmer l D cy h0 a0 s0 p1 _ rfl H.size) (cwV 1 hts gX11_mood_X11_isFarmer rfl rfl rfl (by decide +kernel) ⟨Nat.le_of_ble_eq_true rfl, Nat.le_of_ble_eq_true rfl⟩) hK hN hP hD [0, 1, 2, 3, 4, 5, 6, 7, 8, 9, 10, 11, 12, 13] rfl rfl (ci := 11) (q0 := 0) rfl rfl rfl rfl hl.1 rfl (Nat.le_of_ble_eq_true rfl) dX11_mood_2 ⟨Nat.le_refl 0, Nat.le_refl 0⟩) hP hD hS hA [0, 1, 2, 3, 4, 5, 6, 7, 8, 9, 10, 11, 12, 13] ⟨rfl, rfl, rfl, rfl⟩ (fun b1 H locs hP hD hS => ?_)
  refine lv_if_ne (tgt := 14) hx hb dX11_mood_5 (by decide) (fun c2 => ?_) (fun c2 => ?_)
  · replace h := (if_neg c2).symm.trans h
    refine lv_iconst (v := 0) hx hb dX11_mood_14 (by decide) ?_
    refine lv_istore_n (lv' := [(2, .int (0 : Int32)), (0, .ref h0), (1, .int p1)]) hx hb dX11_mood_15 rfl hl (by decide) rfl (fun ls hl => ?_)
    refine lv_iconst (v := 0) hx hb dX11_mood_16 (by decide) ?_
    refine lv_istore_n (lv' := [(3, .int (0 : Int32)), (2, .int (0 : Int32)), (0, .ref h0), (1, .int p1)]) hx hb dX11_mood_17 rfl hl (by decide) rfl (fun ls hl => ?_)
    have L18 : ∀ (n : Nat) (q18 : Int32 × Int32) (o : Int32), loopO (fX11_mood_L18 p1 s0) n q18 = some o → ∀ (H : Heap) (locs : List Loc) (ls : Array Slot), lv_has ls 4 [(0, .ref h0), (1, .int p1), (2, .int q18.1), (3, .int q18.2)] → va_P D vwCl (WX11 cy h0 a0 s0) H → va_D A (WX11 cy h0 a0 s0) → va_S A s.heap H locs → ∀ (kk51 : ∀ (H : Heap) (locs : List Loc) (ls : Array Slot), lv_has ls 4 [(0, .ref h0), (2, .int o)] → va_P D vwCl (WX11 cy h0 a0 s0) H → va_D A (WX11 cy h0 a0 s0) → va_S A s.heap H locs → W p l e rmX11_mood s m args below meth c H locs 0 0 QQ (F0 m 51 ls [])), W p l e rmX11_mood s m args below meth c H locs 0 0 QQ (F0 m 18 ls []) := by
      intro n
      induction n with
      | zero => intro q18 o h; exact absurd h (by rw [loopO_zero]; intro z; cases z)
      | succ n ih =>
        intro q18 o h H locs ls hl hP hD hS kk51
        obtain ⟨w, h, hgo, hst⟩ := loopO_elim h
        unfold fX11_mood_L18 at h
        refine lv_iload_n hx hb dX11_mood_18 rfl (lv_at hl 3 rfl) ?_
        refine lv_aload_n hx hb dX11_mood_19 rfl (lv_at hl 0 rfl) ?_
        refine va_get (D := D) (ci := 11) (v := .ref (a0 0)) (C := RX11) (T := TX11) (N := 38) hx hb hts hinX11 hown hK hP 0 rfl rfl 0 (by decide) (hts (.fieldLink RX11 7 "KneeBenchModel" "at" "[I") (List.mem_of_getElem? (i := 1) rfl)) (fun _ h9 => h9) rfl dX11_mood_20 ?_
        refine lv_iconst (v := 0) hx hb dX11_mood_23 (by decide) ?_
        refine va_iald hx hb hK hP 1 1 rfl rfl (inb_in (by decide)) dX11_mood_24 ?_
        refine lv_icmp_ge (tgt := 51) hx hb dX11_mood_25 (by decide) (fun c3 => ?_) (fun c3 => ?_)
        · replace h := (if_pos c3).symm.trans h
          have eo := hst _ (Option.some.inj h).symm
          subst eo
          exact kk51 H locs ls (lv_sub hl [0, 2] rfl) hP hD hS
        · replace h := (if_neg c3).symm.trans h
          refine lv_iload_n hx hb dX11_mood_28 rfl (lv_at hl 2 rfl) ?_
          refine lv_aload_n hx hb dX11_mood_29 rfl (lv_at hl 0 rfl) ?_
          refine va_get (D := D) (ci := 11) (v := .ref (a0 0)) (C := RX11) (T := TX11) (N := 38) hx hb hts hinX11 hown hK hP 0 rfl rfl 0 (by decide) (hts (.fieldLink RX11 7 "KneeBenchModel" "at" "[I") (List.mem_of_getElem? (i := 1) rfl)) (fun _ h9 => h9) rfl dX11_mood_30 ?_
          refine lv_bipush (v := 58) hx hb dX11_mood_33 (by decide) ?_
          refine lv_bipush (v := 8) hx hb dX11_mood_35 (by decide) ?_
          refine lv_iload_n hx hb dX11_mood_37 rfl (lv_at hl 1 rfl) ?_
          refine lv_imul hx hb dX11_mood_38 ?_
          refine lv_iadd hx hb dX11_mood_39 ?_
          refine lv_iload_n hx hb dX11_mood_40 rfl (lv_at hl 3 rfl) ?_
          refine lv_iadd hx hb dX11_mood_41 ?_
          obtain ⟨g4, h⟩ := gd_elim h
          refine va_iald hx hb hK hP 1 1 rfl rfl (inb_in g4) dX11_mood_42 ?_
          refine lv_iadd hx hb dX11_mood_43 ?_
          refine lv_topi (fun x5 ex5 => ?_)
          replace h := lt_use h x5 ex5
          refine lv_istore_n (lv' := [(2, .int x5), (0, .ref h0), (1, .int p1), (3, .int q18.2)]) hx hb dX11_mood_44 rfl hl (by decide) rfl (fun ls hl => ?_)
          refine lv_iinc (v := (q18.2 + (1 : Int32))) (lv' := [(3, .int (q18.2 + (1 : Int32))), (2, .int x5), (0, .ref h0), (1, .int p1)]) hx hb dX11_mood_45 hl (k := 3) rfl rfl (by decide) rfl (fun ls hl => ?_)
          refine lv_goto (tgt := 18) hx hb dX11_mood_48 (by decide) ?_
          exact ih _ o (hgo _ (Option.some.inj h).symm) H locs ls (lv_sub hl [2, 3, 1, 0] rfl) hP hD hS kk51
    obtain ⟨o18, ho18, h⟩ := bd_elim h
    obtain ⟨n18, hn18⟩ := loopF_some ho18
    refine L18 n18 _ o18 hn18 H locs ls (lv_sub hl [2, 3, 1, 0] rfl) hP hD hS (fun H locs ls hl hP hD hS => ?_)
    refine lv_aload_n hx hb dX11_mood_51 rfl (lv_at hl 0 rfl) ?_
    refine lv_iload_n hx hb dX11_mood_52 rfl (lv_at hl 1 rfl) ?_
    obtain ⟨r6, hr6, h⟩ := lt_elim h
    refine ca_i (w' := WX11 cy h0 a0 r6.2) (rn_V (As := [.int o18]) (rest := []) ⟨hx, hb, hml, hown, hts⟩ (kX11_gives l D cy h0 a0 s0 o18 r6 hr6.symm H.size) (cwV 1 hts gX11_mood_X11_gives rfl rfl rfl (by decide +kernel) ⟨Nat.le_of_ble_eq_true rfl, Nat.le_of_ble_eq_true rfl⟩) hK hN hP hD [0, 1, 2, 3, 4, 5, 6, 7, 8, 9, 10, 11, 12, 13] rfl rfl (ci := 11) (q0 := 0) rfl rfl rfl rfl hl.1 rfl (Nat.le_of_ble_eq_true rfl) dX11_mood_53 ⟨Nat.le_refl 0, Nat.le_refl 0⟩) hP hD hS hA [0, 1, 2, 3, 4, 5, 6, 7, 8, 9, 10, 11, 12, 13] ⟨rfl, rfl, rfl, rfl⟩ (fun H locs hP hD hS => ?_)
    exact hret 56 H locs ls (r6.1, r6.2) (Option.some.inj h) hP hD hS dX11_mood_56
  · replace h := (if_pos c2).symm.trans h
    refine lv_aload_n hx hb dX11_mood_8 rfl (lv_at hl 0 rfl) ?_
    refine lv_iconst (v := 1) hx hb dX11_mood_9 (by decide) ?_
    obtain ⟨r7, hr7, h⟩ := lt_elim h
    refine ca_i (w' := WX11 cy h0 a0 r7.2) (rn_V (As := [.int (1 : Int32)]) (rest := []) ⟨hx, hb, hml, hown, hts⟩ (kX11_refuse l D cy h0 a0 s0 (1 : Int32) r7 hr7.symm H.size) (cwV 1 hts gX11_mood_X11_refuse rfl rfl rfl (by decide +kernel) ⟨Nat.le_of_ble_eq_true rfl, Nat.le_of_ble_eq_true rfl⟩) hK hN hP hD [0, 1, 2, 3, 4, 5, 6, 7, 8, 9, 10, 11, 12, 13] rfl rfl (ci := 11) (q0 := 0) rfl rfl rfl rfl hl.1 rfl (Nat.le_of_ble_eq_true rfl) dX11_mood_10 ⟨Nat.le_refl 0, Nat.le_refl 0⟩) hP hD hS hA [0, 1, 2, 3, 4, 5, 6, 7, 8, 9, 10, 11, 12, 13] ⟨rfl, rfl, rfl, rfl⟩ (fun H locs hP hD hS => ?_)
    exact hret 13 H locs ls (r7.1, r7.2) (Option.some.inj h) hP hD hS dX11_mood_13
set_option maxRecDepth 20000 in
theorem ggX11_nextWrong_X11_isFrom : GoodIn wsX11_nextWrong wsX11_isFrom := goodIn_r _ [6] (by decide +kernel) (by decide +kernel)
set_option maxRecDepth 20000 in
theorem gX11_nextWrong_X11_isFrom : GoodIn wsX11_nextWrong (va_wsS RX11 282 yX11_isFrom wsX11_isFrom) := goodIn_app (goodIn_of _ (by decide +kernel)) ggX11_nextWrong_X11_isFrom
set_option maxRecDepth 20000 in
theorem ggX11_nextWrong_X11_refuse : GoodIn wsX11_nextWrong wsX11_refuse := goodIn_r _ [10, 11, 48, 49, 50, 51, 52, 53, 54, 55, 56, 57, 58, 59, 60, 61, 62, 63, 64, 65, 66, 67, 68, 69, 70, 71, 72, 73, 74, 75, 76, 77, 78, 79, 80, 81, 82, 83, 84, 85] (by decide +kernel) (by decide +kernel)
set_option maxRecDepth 20000 in
theorem gX11_nextWrong_X11_refuse : GoodIn wsX11_nextWrong (wsV RX11 75 RX11 yX11_refuse wsX11_refuse) := goodIn_app (goodIn_of _ (by decide +kernel)) ggX11_nextWrong_X11_refuse
set_option maxRecDepth 20000 in
theorem ggX11_nextWrong_X11_sayOf : GoodIn wsX11_nextWrong wsX11_sayOf := goodIn_r _ [15, 2, 16, 17, 18, 5, 19, 20, 21, 22, 23, 24, 25, 26, 27, 28, 29, 30, 31, 32, 33, 34, 35, 36, 37, 38, 39, 48, 49, 50, 51, 52, 53, 54, 55, 56, 57, 58, 59, 60, 61, 62, 63, 64, 65, 66, 67, 68, 69, 70, 71, 72, 73, 74, 75, 76, 77, 78, 79, 80, 81, 82, 83, 84, 85] (by decide +kernel) (by decide +kernel)
set_option maxRecDepth 20000 in
theorem gX11_nextWrong_X11_sayOf : GoodIn wsX11_nextWrong (wsV RX11 316 RX11 yX11_sayOf wsX11_sayOf) := goodIn_app (goodIn_of _ (by decide +kernel)) ggX11_nextWrong_X11_sayOf
set_option maxRecDepth 20000 in
theorem ggX11_nextWrong_X11_isWet : GoodIn wsX11_nextWrong wsX11_isWet := goodIn_r _ [43, 2, 48, 49, 50, 51, 52, 53, 54, 55, 56, 57, 58, 59, 60, 61, 62, 63, 64, 65, 66, 67, 68, 69, 70, 71, 72, 73, 74, 75, 76, 77, 78, 79, 80, 81, 82, 83, 84, 85] (by decide +kernel) (by decide +kernel)
set_option maxRecDepth 20000 in
theorem gX11_nextWrong_X11_isWet : GoodIn wsX11_nextWrong (wsV RX11 264 RX11 yX11_isWet wsX11_isWet) := goodIn_app (goodIn_of _ (by decide +kernel)) ggX11_nextWrong_X11_isWet
set_option maxRecDepth 20000 in
theorem ggX11_nextWrong_X11_gives : GoodIn wsX11_nextWrong wsX11_gives := goodIn_r _ [47, 11, 48, 49, 50, 51, 52, 53, 54, 55, 56, 57, 58, 59, 60, 61, 62, 63, 64, 65, 66, 67, 68, 69, 70, 71, 72, 73, 74, 75, 76, 77, 78, 79, 80, 81, 82, 83, 84, 85] (by decide +kernel) (by decide +kernel)
set_option maxRecDepth 20000 in
theorem gX11_nextWrong_X11_gives : GoodIn wsX11_nextWrong (wsV RX11 79 RX11 yX11_gives wsX11_gives) := goodIn_app (goodIn_of _ (by decide +kernel)) ggX11_nextWrong_X11_gives
theorem dX11_nextWrong_0 : decode cX11_nextWrong 0 = .ok (.iload_n 1, 1) := by decide +kernel
theorem dX11_nextWrong_1 : decode cX11_nextWrong 1 = .ok (.i2l, 1) := by decide +kernel
theorem dX11_nextWrong_2 : decode cX11_nextWrong 2 = .ok (.lconst 0, 1) := by decide +kernel
theorem dX11_nextWrong_3 : decode cX11_nextWrong 3 = .ok (.ldc2_w 357, 3) := by decide +kernel
theorem dX11_nextWrong_6 : decode cX11_nextWrong 6 = .ok (.invokestatic 282, 3) := by decide +kernel
theorem dX11_nextWrong_9 : decode cX11_nextWrong 9 = .ok (.ifCond .ne 9, 3) := by decide +kernel
theorem dX11_nextWrong_12 : decode cX11_nextWrong 12 = .ok (.aload_n 0, 1) := by decide +kernel
theorem dX11_nextWrong_13 : decode cX11_nextWrong 13 = .ok (.iconst 1, 1) := by decide +kernel
theorem dX11_nextWrong_14 : decode cX11_nextWrong 14 = .ok (.invokevirtual 75, 3) := by decide +kernel
theorem dX11_nextWrong_17 : decode cX11_nextWrong 17 = .ok (.ireturn, 1) := by decide +kernel
theorem dX11_nextWrong_18 : decode cX11_nextWrong 18 = .ok (.iload_n 1, 1) := by decide +kernel
theorem dX11_nextWrong_19 : decode cX11_nextWrong 19 = .ok (.istore_n 2, 1) := by decide +kernel
theorem dX11_nextWrong_20 : decode cX11_nextWrong 20 = .ok (.iload_n 2, 1) := by decide +kernel
theorem dX11_nextWrong_21 : decode cX11_nextWrong 21 = .ok (.aload_n 0, 1) := by decide +kernel
theorem dX11_nextWrong_22 : decode cX11_nextWrong 22 = .ok (.getfield 7, 3) := by decide +kernel
theorem dX11_nextWrong_25 : decode cX11_nextWrong 25 = .ok (.iconst 1, 1) := by decide +kernel
theorem dX11_nextWrong_26 : decode cX11_nextWrong 26 = .ok (.iaload, 1) := by decide +kernel
theorem dX11_nextWrong_27 : decode cX11_nextWrong 27 = .ok (.if_icmp .ge 36, 3) := by decide +kernel
theorem dX11_nextWrong_30 : decode cX11_nextWrong 30 = .ok (.aload_n 0, 1) := by decide +kernel
theorem dX11_nextWrong_31 : decode cX11_nextWrong 31 = .ok (.iload_n 2, 1) := by decide +kernel
theorem dX11_nextWrong_32 : decode cX11_nextWrong 32 = .ok (.invokevirtual 316, 3) := by decide +kernel
theorem dX11_nextWrong_35 : decode cX11_nextWrong 35 = .ok (.aload_n 0, 1) := by decide +kernel
theorem dX11_nextWrong_36 : decode cX11_nextWrong 36 = .ok (.iload_n 2, 1) := by decide +kernel
theorem dX11_nextWrong_37 : decode cX11_nextWrong 37 = .ok (.invokevirtual 264, 3) := by decide +kernel
theorem dX11_nextWrong_40 : decode cX11_nextWrong 40 = .ok (.ifCond .eq 7, 3) := by decide +kernel
theorem dX11_nextWrong_43 : decode cX11_nextWrong 43 = .ok (.iconst 0, 1) := by decide +kernel
theorem dX11_nextWrong_44 : decode cX11_nextWrong 44 = .ok (.goto 4, 3) := by decide +kernel
theorem dX11_nextWrong_47 : decode cX11_nextWrong 47 = .ok (.iconst 1, 1) := by decide +kernel
theorem dX11_nextWrong_48 : decode cX11_nextWrong 48 = .ok (.if_icmp .ne 9, 3) := by decide +kernel
theorem dX11_nextWrong_51 : decode cX11_nextWrong 51 = .ok (.aload_n 0, 1) := by decide +kernel
theorem dX11_nextWrong_52 : decode cX11_nextWrong 52 = .ok (.iload_n 2, 1) := by decide +kernel
theorem dX11_nextWrong_53 : decode cX11_nextWrong 53 = .ok (.invokevirtual 79, 3) := by decide +kernel
theorem dX11_nextWrong_56 : decode cX11_nextWrong 56 = .ok (.ireturn, 1) := by decide +kernel
theorem dX11_nextWrong_57 : decode cX11_nextWrong 57 = .ok (.iinc 2 1, 3) := by decide +kernel
theorem dX11_nextWrong_60 : decode cX11_nextWrong 60 = .ok (.goto (-40), 3) := by decide +kernel
theorem dX11_nextWrong_63 : decode cX11_nextWrong 63 = .ok (.aload_n 0, 1) := by decide +kernel
theorem dX11_nextWrong_64 : decode cX11_nextWrong 64 = .ok (.bipush 6, 2) := by decide +kernel
theorem dX11_nextWrong_66 : decode cX11_nextWrong 66 = .ok (.invokevirtual 75, 3) := by decide +kernel
theorem dX11_nextWrong_69 : decode cX11_nextWrong 69 = .ok (.ireturn, 1) := by decide +kernel
noncomputable def fX11_nextWrong_J48 (q20 : Int32) (z48_0 : Int32) (z48_1 : Int32) : Option (Int32 ⊕ ((Int32) ⊕ (Unit))) :=
if z48_1 = z48_0 then (
some (.inr (.inl q20))) else (
some (.inl (q20 + (1 : Int32))))
noncomputable def fX11_nextWrong_L20 (s0 : Rc) (q20 : Int32) : Option (Int32 ⊕ ((Int32) ⊕ (Unit))) :=
if (ga s0 0 (1 : Int32).toNatClampNeg) ≤ q20 then (
some (.inr (.inr ()))) else (
(fX11_sayOf q20 s0).bind (fun r5 =>
(fX11_isWet q20 s0).bind (fun r6 =>
if r6 = (0 : Int32) then (
fX11_nextWrong_J48 q20 (1 : Int32) r5) else (
fX11_nextWrong_J48 q20 (0 : Int32) r5))))
noncomputable def fX11_nextWrong (p1 : Int32) (s0 : Rc) : Option (Int32 × Rc) :=
if (fX11_isFrom p1.toInt64 (0 : Int64) (59 : Int64)) = (0 : Int32) then (
lt_ (fX11_refuse (1 : Int32) s0) (fun r11 =>
some (r11.1, r11.2))) else (
(loopF (fX11_nextWrong_L20 s0) p1).bind (fun o20 =>
Sum.elim (fun o20a =>
lt_ (fX11_gives o20a s0) (fun r9 =>
some (r9.1, r9.2))) (fun o20b =>
lt_ (fX11_refuse (6 : Int32) s0) (fun r10 =>
some (r10.1, r10.2))) o20))
abbrev rmX11_nextWrong : Room := { frames := 4, cells := 0, slots := 0, locals := 92 }
set_option maxHeartbeats 4000000 in
set_option maxRecDepth 100000 in
theorem kX11_nextWrong (l : Launch) (D : va_G) (cy : Nat → ClassId) (h0 : Nat) (a0 : Nat → Nat) (s0 : Rc) (p1 : Int32) (res : Int32 × Rc) (h : fX11_nextWrong p1 s0 = some res) : CI l D cy yX11_nextWrong wsX11_nextWrong rmX11_nextWrong [.ref h0, .int p1] (WX11 cy h0 a0 s0) (WX11 cy h0 a0 res.2) res.1 := by
  refine CI.of (cc := cX11_nextWrong) (maxL := 3) (by decide) rfl (Nat.le_of_ble_eq_true rfl) ?_
  intro p e s m args below meth c A QQ ls E hr
  obtain ⟨hx, hb, hml, hown, hts, hK, hN, hP, hD, hA, hl⟩ := E
  have hret : ∀ (pc : Nat) (H : Heap) (locs : List Loc) (ls : Array Slot) (u : Int32 × Rc), u = res → va_P D vwCl (WX11 cy h0 a0 u.2) H → va_D A (WX11 cy h0 a0 u.2) → va_S A s.heap H locs → decode cX11_nextWrong pc = .ok (.ireturn, 1) → W p l e rmX11_nextWrong s m args below meth c H locs 0 0 QQ (F0 m pc ls [.int u.1]) := by
    intro pc H locs ls u hu hP hD hS hd; subst hu; exact hr pc H locs ls _ rfl hP hD hS hd
  clear hr
  have hl : lv_has ls 3 [(0, .ref h0), (1, .int p1)] := hl
  have hinX11 : ∀ w ∈ wsX110, w ∈ wsX11_nextWrong := fun _ h => List.mem_cons_of_mem _ (List.mem_append_right _ h)
  unfold fX11_nextWrong at h
  suffices key : ∀ (H : Heap) (locs : List Loc), va_P D vwCl (WX11 cy h0 a0 s0) H → va_S A s.heap H locs → W p l e rmX11_nextWrong s m args below meth c H locs 0 0 QQ (F0 m 0 ls []) from key _ _ hP va_S.rf
  clear hP
  intro H locs hP hS
  refine lv_iload_n hx hb dX11_nextWrong_0 rfl (lv_at hl 1 rfl) ?_
  refine lv_i2l hx hb dX11_nextWrong_1 rfl ?_
  refine lv_lconst (v := 0) hx hb dX11_nextWrong_2 (by decide) ?_
  refine lv_ldc2 (v := 59) hx hb hown (hts (.constantLong RX11 357 (59)) (List.mem_of_getElem? (i := 1) rfl)) dX11_nextWrong_3 ?_
  refine ca_z (w' := WX11 cy h0 a0 s0) (rn_S (As := [.long p1.toInt64, .long (0 : Int64), .long (59 : Int64)]) (rest := []) ⟨hx, hb, hml, hown, hts⟩ (kX11_isFrom l D cy p1.toInt64 (0 : Int64) (59 : Int64) _ rfl H.size) (va_cwS 3 hts gX11_nextWrong_X11_isFrom rfl rfl rfl (by decide +kernel) ⟨Nat.le_of_ble_eq_true rfl, Nat.le_of_ble_eq_true rfl⟩) hK hN hP hD [] rfl rfl rfl hl.1 rfl (Nat.le_of_ble_eq_true rfl) dX11_nextWrong_6 ⟨Nat.le_refl 0, Nat.le_refl 0⟩) hP hD hS hA [] ⟨rfl, rfl, rfl, rfl⟩ (fun b1 H locs hP hD hS => ?_)
  refine lv_if_ne (tgt := 18) hx hb dX11_nextWrong_9 (by decide) (fun c2 => ?_) (fun c2 => ?_)
  · replace h := (if_neg c2).symm.trans h
    refine lv_iload_n hx hb dX11_nextWrong_18 rfl (lv_at hl 1 rfl) ?_
    refine lv_istore_n (lv' := [(2, .int p1), (0, .ref h0), (1, .int p1)]) hx hb dX11_nextWrong_19 rfl hl (by decide) rfl (fun ls hl => ?_)
    have L20 : ∀ (n : Nat) (q20 : Int32) (o : (Int32) ⊕ (Unit)), loopO (fX11_nextWrong_L20 s0) n q20 = some o → ∀ (H : Heap) (locs : List Loc) (ls : Array Slot), lv_has ls 3 [(0, .ref h0), (2, .int q20)] → va_P D vwCl (WX11 cy h0 a0 s0) H → va_D A (WX11 cy h0 a0 s0) → va_S A s.heap H locs → ∀ (kk51 : ∀ v : Int32, o = (.inl v) → ∀ (H : Heap) (locs : List Loc) (ls : Array Slot), lv_has ls 3 [(0, .ref h0), (2, .int v)] → va_P D vwCl (WX11 cy h0 a0 s0) H → va_D A (WX11 cy h0 a0 s0) → va_S A s.heap H locs → W p l e rmX11_nextWrong s m args below meth c H locs 0 0 QQ (F0 m 51 ls [])) (kk63 : ∀ v : Unit, o = (.inr v) → ∀ (H : Heap) (locs : List Loc) (ls : Array Slot), lv_has ls 3 [(0, .ref h0)] → va_P D vwCl (WX11 cy h0 a0 s0) H → va_D A (WX11 cy h0 a0 s0) → va_S A s.heap H locs → W p l e rmX11_nextWrong s m args below meth c H locs 0 0 QQ (F0 m 63 ls [])), W p l e rmX11_nextWrong s m args below meth c H locs 0 0 QQ (F0 m 20 ls []) := by
      intro n
      induction n with
      | zero => intro q20 o h; exact absurd h (by rw [loopO_zero]; intro z; cases z)
      | succ n ih =>
        intro q20 o h H locs ls hl hP hD hS kk51 kk63
        obtain ⟨w, h, hgo, hst⟩ := loopO_elim h
        unfold fX11_nextWrong_L20 at h
        have J48 : ∀ (z48_0 : Int32) (z48_1 : Int32) (H : Heap) (locs : List Loc) (ls : Array Slot), lv_has ls 3 [(0, .ref h0), (2, .int q20)] → va_P D vwCl (WX11 cy h0 a0 s0) H → va_D A (WX11 cy h0 a0 s0) → va_S A s.heap H locs → fX11_nextWrong_J48 q20 z48_0 z48_1 = some w → W p l e rmX11_nextWrong s m args below meth c H locs 0 0 QQ (F0 m 48 ls [.int z48_0, .int z48_1]) := by
          intro z48_0 z48_1 H locs ls hl hP hD hS h
          unfold fX11_nextWrong_J48 at h
          refine lv_icmp_ne (tgt := 57) hx hb dX11_nextWrong_48 (by decide) (fun c3 => ?_) (fun c3 => ?_)
          · replace h := (if_neg c3).symm.trans h
            refine lv_iinc (v := (q20 + (1 : Int32))) (lv' := [(2, .int (q20 + (1 : Int32))), (0, .ref h0)]) hx hb dX11_nextWrong_57 hl (k := 1) rfl rfl (by decide) rfl (fun ls hl => ?_)
            refine lv_goto (tgt := 20) hx hb dX11_nextWrong_60 (by decide) ?_
            exact ih _ o (hgo _ (Option.some.inj h).symm) H locs ls (lv_sub hl [1, 0] rfl) hP hD hS kk51 kk63
          · replace h := (if_pos c3).symm.trans h
            have eo := hst _ (Option.some.inj h).symm
            exact kk51 _ eo.symm H locs ls (lv_sub hl [0, 1] rfl) hP hD hS
        refine lv_iload_n hx hb dX11_nextWrong_20 rfl (lv_at hl 1 rfl) ?_
        refine lv_aload_n hx hb dX11_nextWrong_21 rfl (lv_at hl 0 rfl) ?_
        refine va_get (D := D) (ci := 11) (v := .ref (a0 0)) (C := RX11) (T := TX11) (N := 38) hx hb hts hinX11 hown hK hP 0 rfl rfl 0 (by decide) (hts (.fieldLink RX11 7 "KneeBenchModel" "at" "[I") (List.mem_of_getElem? (i := 2) rfl)) (fun _ h9 => h9) rfl dX11_nextWrong_22 ?_
        refine lv_iconst (v := 1) hx hb dX11_nextWrong_25 (by decide) ?_
        refine va_iald hx hb hK hP 1 1 rfl rfl (inb_in (by decide)) dX11_nextWrong_26 ?_
        refine lv_icmp_ge (tgt := 63) hx hb dX11_nextWrong_27 (by decide) (fun c4 => ?_) (fun c4 => ?_)
        · replace h := (if_pos c4).symm.trans h
          have eo := hst _ (Option.some.inj h).symm
          exact kk63 _ eo.symm H locs ls (lv_sub hl [0] rfl) hP hD hS
        · replace h := (if_neg c4).symm.trans h
          refine lv_aload_n hx hb dX11_nextWrong_30 rfl (lv_at hl 0 rfl) ?_
          refine lv_iload_n hx hb dX11_nextWrong_31 rfl (lv_at hl 1 rfl) ?_
          obtain ⟨r5, hr5, h⟩ := bd_elim h
          refine ca_i (w' := WX11 cy h0 a0 s0) (rn_V (As := [.int q20]) (rest := []) ⟨hx, hb, hml, hown, hts⟩ (kX11_sayOf l D cy h0 a0 s0 q20 r5 hr5 H.size) (cwV 1 hts gX11_nextWrong_X11_sayOf rfl rfl rfl (by decide +kernel) ⟨Nat.le_of_ble_eq_true rfl, Nat.le_of_ble_eq_true rfl⟩) hK hN hP hD [0, 1, 2, 3, 4, 5, 6, 7, 8, 9, 10, 11, 12, 13] rfl rfl (ci := 11) (q0 := 0) rfl rfl rfl rfl hl.1 rfl (Nat.le_of_ble_eq_true rfl) dX11_nextWrong_32 ⟨Nat.le_refl 0, Nat.le_refl 0⟩) hP hD hS hA [0, 1, 2, 3, 4, 5, 6, 7, 8, 9, 10, 11, 12, 13] ⟨rfl, rfl, rfl, rfl⟩ (fun H locs hP hD hS => ?_)
          refine lv_aload_n hx hb dX11_nextWrong_35 rfl (lv_at hl 0 rfl) ?_
          refine lv_iload_n hx hb dX11_nextWrong_36 rfl (lv_at hl 1 rfl) ?_
          obtain ⟨r6, hr6, h⟩ := bd_elim h
          refine ca_z (w' := WX11 cy h0 a0 s0) (rn_V (As := [.int q20]) (rest := [.int r5]) ⟨hx, hb, hml, hown, hts⟩ (kX11_isWet l D cy h0 a0 s0 q20 r6 hr6 H.size) (cwV 1 hts gX11_nextWrong_X11_isWet rfl rfl rfl (by decide +kernel) ⟨Nat.le_of_ble_eq_true rfl, Nat.le_of_ble_eq_true rfl⟩) hK hN hP hD [0, 1, 2, 3, 4, 5, 6, 7, 8, 9, 10, 11, 12, 13] rfl rfl (ci := 11) (q0 := 0) rfl rfl rfl rfl hl.1 rfl (Nat.le_of_ble_eq_true rfl) dX11_nextWrong_37 ⟨Nat.le_refl 0, Nat.le_refl 0⟩) hP hD hS hA [0, 1, 2, 3, 4, 5, 6, 7, 8, 9, 10, 11, 12, 13] ⟨rfl, rfl, rfl, rfl⟩ (fun b7 H locs hP hD hS => ?_)
          refine lv_if_eq (tgt := 47) hx hb dX11_nextWrong_40 (by decide) (fun c8 => ?_) (fun c8 => ?_)
          · replace h := (if_pos c8).symm.trans h
            refine lv_iconst (v := 1) hx hb dX11_nextWrong_47 (by decide) ?_
            exact J48 (1 : Int32) r5 H locs ls (lv_sub hl [0, 1] rfl) hP hD hS h
          · replace h := (if_neg c8).symm.trans h
            refine lv_iconst (v := 0) hx hb dX11_nextWrong_43 (by decide) ?_
            refine lv_goto (tgt := 48) hx hb dX11_nextWrong_44 (by decide) ?_
            exact J48 (0 : Int32) r5 H locs ls (lv_sub hl [0, 1] rfl) hP hD hS h
    obtain ⟨o20, ho20, h⟩ := bd_elim h
    obtain ⟨n20, hn20⟩ := loopF_some ho20
    refine L20 n20 _ o20 hn20 H locs ls (lv_sub hl [1, 0] rfl) hP hD hS (fun o20a eo H locs ls hl hP hD hS => ?_) (fun o20b eo H locs ls hl hP hD hS => ?_)
    · subst eo
      rw [Sum.elim_inl] at h
      refine lv_aload_n hx hb dX11_nextWrong_51 rfl (lv_at hl 0 rfl) ?_
      refine lv_iload_n hx hb dX11_nextWrong_52 rfl (lv_at hl 1 rfl) ?_
      obtain ⟨r9, hr9, h⟩ := lt_elim h
      refine ca_i (w' := WX11 cy h0 a0 r9.2) (rn_V (As := [.int o20a]) (rest := []) ⟨hx, hb, hml, hown, hts⟩ (kX11_gives l D cy h0 a0 s0 o20a r9 hr9.symm H.size) (cwV 1 hts gX11_nextWrong_X11_gives rfl rfl rfl (by decide +kernel) ⟨Nat.le_of_ble_eq_true rfl, Nat.le_of_ble_eq_true rfl⟩) hK hN hP hD [0, 1, 2, 3, 4, 5, 6, 7, 8, 9, 10, 11, 12, 13] rfl rfl (ci := 11) (q0 := 0) rfl rfl rfl rfl hl.1 rfl (Nat.le_of_ble_eq_true rfl) dX11_nextWrong_53 ⟨Nat.le_refl 0, Nat.le_refl 0⟩) hP hD hS hA [0, 1, 2, 3, 4, 5, 6, 7, 8, 9, 10, 11, 12, 13] ⟨rfl, rfl, rfl, rfl⟩ (fun H locs hP hD hS => ?_)
      exact hret 56 H locs ls (r9.1, r9.2) (Option.some.inj h) hP hD hS dX11_nextWrong_56
    · subst eo
      rw [Sum.elim_inr] at h
      refine lv_aload_n hx hb dX11_nextWrong_63 rfl (lv_at hl 0 rfl) ?_
      refine lv_bipush (v := 6) hx hb dX11_nextWrong_64 (by decide) ?_
      obtain ⟨r10, hr10, h⟩ := lt_elim h
      refine ca_i (w' := WX11 cy h0 a0 r10.2) (rn_V (As := [.int (6 : Int32)]) (rest := []) ⟨hx, hb, hml, hown, hts⟩ (kX11_refuse l D cy h0 a0 s0 (6 : Int32) r10 hr10.symm H.size) (cwV 1 hts gX11_nextWrong_X11_refuse rfl rfl rfl (by decide +kernel) ⟨Nat.le_of_ble_eq_true rfl, Nat.le_of_ble_eq_true rfl⟩) hK hN hP hD [0, 1, 2, 3, 4, 5, 6, 7, 8, 9, 10, 11, 12, 13] rfl rfl (ci := 11) (q0 := 0) rfl rfl rfl rfl hl.1 rfl (Nat.le_of_ble_eq_true rfl) dX11_nextWrong_66 ⟨Nat.le_refl 0, Nat.le_refl 0⟩) hP hD hS hA [0, 1, 2, 3, 4, 5, 6, 7, 8, 9, 10, 11, 12, 13] ⟨rfl, rfl, rfl, rfl⟩ (fun H locs hP hD hS => ?_)
      exact hret 69 H locs ls (r10.1, r10.2) (Option.some.inj h) hP hD hS dX11_nextWrong_69
  · replace h := (if_pos c2).symm.trans h
    refine lv_aload_n hx hb dX11_nextWrong_12 rfl (lv_at hl 0 rfl) ?_
    refine lv_iconst (v := 1) hx hb dX11_nextWrong_13 (by decide) ?_
    obtain ⟨r11, hr11, h⟩ := lt_elim h
    refine ca_i (w' := WX11 cy h0 a0 r11.2) (rn_V (As := [.int (1 : Int32)]) (rest := []) ⟨hx, hb, hml, hown, hts⟩ (kX11_refuse l D cy h0 a0 s0 (1 : Int32) r11 hr11.symm H.size) (cwV 1 hts gX11_nextWrong_X11_refuse rfl rfl rfl (by decide +kernel) ⟨Nat.le_of_ble_eq_true rfl, Nat.le_of_ble_eq_true rfl⟩) hK hN hP hD [0, 1, 2, 3, 4, 5, 6, 7, 8, 9, 10, 11, 12, 13] rfl rfl (ci := 11) (q0 := 0) rfl rfl rfl rfl hl.1 rfl (Nat.le_of_ble_eq_true rfl) dX11_nextWrong_14 ⟨Nat.le_refl 0, Nat.le_refl 0⟩) hP hD hS hA [0, 1, 2, 3, 4, 5, 6, 7, 8, 9, 10, 11, 12, 13] ⟨rfl, rfl, rfl, rfl⟩ (fun H locs hP hD hS => ?_)
    exact hret 17 H locs ls (r11.1, r11.2) (Option.some.inj h) hP hD hS dX11_nextWrong_17
set_option maxRecDepth 20000 in
theorem ggX11_odds_X11_isAsked : GoodIn wsX11_odds wsX11_isAsked := goodIn_r _ [7] (by decide +kernel) (by decide +kernel)
set_option maxRecDepth 20000 in
theorem gX11_odds_X11_isAsked : GoodIn wsX11_odds (va_wsS RX11 304 yX11_isAsked wsX11_isAsked) := goodIn_app (goodIn_of _ (by decide +kernel)) ggX11_odds_X11_isAsked
set_option maxRecDepth 20000 in
theorem ggX11_odds_X11_isFrom : GoodIn wsX11_odds wsX11_isFrom := goodIn_r _ [10] (by decide +kernel) (by decide +kernel)
set_option maxRecDepth 20000 in
theorem gX11_odds_X11_isFrom : GoodIn wsX11_odds (va_wsS RX11 282 yX11_isFrom wsX11_isFrom) := goodIn_app (goodIn_of _ (by decide +kernel)) ggX11_odds_X11_isFrom
set_option maxRecDepth 20000 in
theorem ggX11_odds_X11_is : GoodIn wsX11_odds wsX11_is := goodIn_r _ [14, 15, 51, 52, 53, 54, 55, 56, 57, 58, 59, 60, 61, 62, 63, 64, 65, 66, 67, 68, 69, 70, 71, 72, 73, 74, 75, 76, 77, 78, 79, 80, 81, 82, 83, 84, 85, 86, 87, 88] (by decide +kernel) (by decide +kernel)
set_option maxRecDepth 20000 in
theorem gX11_odds_X11_is : GoodIn wsX11_odds (wsV RX11 82 RX11 yX11_is wsX11_is) := goodIn_app (goodIn_of _ (by decide +kernel)) ggX11_odds_X11_is
set_option maxRecDepth 20000 in
theorem ggX11_odds_X11_weighs : GoodIn wsX11_odds wsX11_weighs := goodIn_r _ [19, 2, 3, 20, 21, 22, 6, 23, 24, 25, 26, 27, 28, 29, 30, 31, 32, 33, 34, 35, 36, 37, 38, 39, 40, 41, 42, 43, 44, 51, 52, 53, 54, 55, 56, 57, 58, 59, 60, 61, 62, 63, 64, 65, 66, 67, 68, 69, 70, 71, 72, 73, 74, 75, 76, 77, 78, 79, 80, 81, 82, 83, 84, 85, 86, 87, 88] (by decide +kernel) (by decide +kernel)
set_option maxRecDepth 20000 in
theorem gX11_odds_X11_weighs : GoodIn wsX11_odds (wsV RX11 367 RX11 yX11_weighs wsX11_weighs) := goodIn_app (goodIn_of _ (by decide +kernel)) ggX11_odds_X11_weighs
set_option maxRecDepth 20000 in
theorem ggX11_odds_X11_tellsBy : GoodIn wsX11_odds wsX11_tellsBy := goodIn_r _ [48, 49, 50, 11, 12, 13, 6, 14, 15, 51, 52, 53, 54, 55, 56, 57, 58, 59, 60, 61, 62, 63, 64, 65, 66, 67, 68, 69, 70, 71, 72, 73, 74, 75, 76, 77, 78, 79, 80, 81, 82, 83, 84, 85, 86, 87, 88] (by decide +kernel) (by decide +kernel)
set_option maxRecDepth 20000 in
theorem gX11_odds_X11_tellsBy : GoodIn wsX11_odds (wsV RX11 334 RX11 yX11_tellsBy wsX11_tellsBy) := goodIn_app (goodIn_of _ (by decide +kernel)) ggX11_odds_X11_tellsBy
theorem dX11_odds_0 : decode cX11_odds 0 = .ok (.iload_n 1, 1) := by decide +kernel
theorem dX11_odds_1 : decode cX11_odds 1 = .ok (.invokestatic 304, 3) := by decide +kernel
theorem dX11_odds_4 : decode cX11_odds 4 = .ok (.ifCond .eq 15, 3) := by decide +kernel
theorem dX11_odds_7 : decode cX11_odds 7 = .ok (.iload_n 2, 1) := by decide +kernel
theorem dX11_odds_8 : decode cX11_odds 8 = .ok (.i2l, 1) := by decide +kernel
theorem dX11_odds_9 : decode cX11_odds 9 = .ok (.lconst 1, 1) := by decide +kernel
theorem dX11_odds_10 : decode cX11_odds 10 = .ok (.ldc2_w 365, 3) := by decide +kernel
theorem dX11_odds_13 : decode cX11_odds 13 = .ok (.invokestatic 282, 3) := by decide +kernel
theorem dX11_odds_16 : decode cX11_odds 16 = .ok (.ifCond .ne 9, 3) := by decide +kernel
theorem dX11_odds_19 : decode cX11_odds 19 = .ok (.aload_n 0, 1) := by decide +kernel
theorem dX11_odds_20 : decode cX11_odds 20 = .ok (.iconst 1, 1) := by decide +kernel
theorem dX11_odds_21 : decode cX11_odds 21 = .ok (.invokevirtual 82, 3) := by decide +kernel
theorem dX11_odds_24 : decode cX11_odds 24 = .ok (.ireturn, 1) := by decide +kernel
theorem dX11_odds_25 : decode cX11_odds 25 = .ok (.aload_n 0, 1) := by decide +kernel
theorem dX11_odds_26 : decode cX11_odds 26 = .ok (.iload_n 1, 1) := by decide +kernel
theorem dX11_odds_27 : decode cX11_odds 27 = .ok (.iload_n 2, 1) := by decide +kernel
theorem dX11_odds_28 : decode cX11_odds 28 = .ok (.invokevirtual 367, 3) := by decide +kernel
theorem dX11_odds_31 : decode cX11_odds 31 = .ok (.aload_n 0, 1) := by decide +kernel
theorem dX11_odds_32 : decode cX11_odds 32 = .ok (.getfield 359, 3) := by decide +kernel
theorem dX11_odds_35 : decode cX11_odds 35 = .ok (.aload_n 0, 1) := by decide +kernel
theorem dX11_odds_36 : decode cX11_odds 36 = .ok (.getfield 362, 3) := by decide +kernel
theorem dX11_odds_39 : decode cX11_odds 39 = .ok (.ladd, 1) := by decide +kernel
theorem dX11_odds_40 : decode cX11_odds 40 = .ok (.lconst 0, 1) := by decide +kernel
theorem dX11_odds_41 : decode cX11_odds 41 = .ok (.lcmp, 1) := by decide +kernel
theorem dX11_odds_42 : decode cX11_odds 42 = .ok (.ifCond .ne 12, 3) := by decide +kernel
theorem dX11_odds_45 : decode cX11_odds 45 = .ok (.aload_n 0, 1) := by decide +kernel
theorem dX11_odds_46 : decode cX11_odds 46 = .ok (.bipush 7, 2) := by decide +kernel
theorem dX11_odds_48 : decode cX11_odds 48 = .ok (.invokevirtual 82, 3) := by decide +kernel
theorem dX11_odds_51 : decode cX11_odds 51 = .ok (.goto 20, 3) := by decide +kernel
theorem dX11_odds_54 : decode cX11_odds 54 = .ok (.aload_n 0, 1) := by decide +kernel
theorem dX11_odds_55 : decode cX11_odds 55 = .ok (.aload_n 0, 1) := by decide +kernel
theorem dX11_odds_56 : decode cX11_odds 56 = .ok (.getfield 359, 3) := by decide +kernel
theorem dX11_odds_59 : decode cX11_odds 59 = .ok (.aload_n 0, 1) := by decide +kernel
theorem dX11_odds_60 : decode cX11_odds 60 = .ok (.getfield 359, 3) := by decide +kernel
theorem dX11_odds_63 : decode cX11_odds 63 = .ok (.aload_n 0, 1) := by decide +kernel
theorem dX11_odds_64 : decode cX11_odds 64 = .ok (.getfield 362, 3) := by decide +kernel
theorem dX11_odds_67 : decode cX11_odds 67 = .ok (.ladd, 1) := by decide +kernel
theorem dX11_odds_68 : decode cX11_odds 68 = .ok (.invokevirtual 334, 3) := by decide +kernel
theorem dX11_odds_71 : decode cX11_odds 71 = .ok (.ireturn, 1) := by decide +kernel
noncomputable def fX11_odds (p1 : Int32) (p2 : Int32) (s0 : Rc) : Option (Int32 × Rc) :=
if (fX11_isAsked p1) = (0 : Int32) then (
lt_ (fX11_is (1 : Int32) s0) (fun r3 =>
some (r3.1, r3.2))) else (
if (fX11_isFrom p2.toInt64 (1 : Int64) (15 : Int64)) = (0 : Int32) then (
lt_ (fX11_is (1 : Int32) s0) (fun r13 =>
some (r13.1, r13.2))) else (
(fX11_weighs p1 p2 s0).bind (fun r7 =>
if ((gl r7 27) + (gl r7 28)) = (0 : Int64) then (
lt_ (fX11_is (7 : Int32) r7) (fun r11 =>
some (r11.1, r11.2))) else (
(fX11_tellsBy (gl r7 27) ((gl r7 27) + (gl r7 28)) r7).bind (fun r9 =>
some (r9.1, r9.2))))))
abbrev rmX11_odds : Room := { frames := 4, cells := 0, slots := 0, locals := 91 }
set_option maxHeartbeats 4000000 in
set_option maxRecDepth 100000 in
theorem kX11_odds (l : Launch) (D : va_G) (cy : Nat → ClassId) (h0 : Nat) (a0 : Nat → Nat) (s0 : Rc) (p1 : Int32) (p2 : Int32) (res : Int32 × Rc) (h : fX11_odds p1 p2 s0 = some res) : CZ l D cy yX11_odds wsX11_odds rmX11_odds [.ref h0, .int p1, .int p2] (WX11 cy h0 a0 s0) (WX11 cy h0 a0 res.2) res.1 := by
  refine CZ.of (cc := cX11_odds) (maxL := 3) (by decide) rfl (Nat.le_of_ble_eq_true rfl) ?_
  intro p e s m args below meth c A QQ ls E hr
  obtain ⟨hx, hb, hml, hown, hts, hK, hN, hP, hD, hA, hl⟩ := E
  have hret : ∀ (pc : Nat) (H : Heap) (locs : List Loc) (ls : Array Slot) (u : Int32 × Rc), u = res → va_P D vwCl (WX11 cy h0 a0 u.2) H → va_D A (WX11 cy h0 a0 u.2) → va_S A s.heap H locs → isb u.1 = true → decode cX11_odds pc = .ok (.ireturn, 1) → W p l e rmX11_odds s m args below meth c H locs 0 0 QQ (F0 m pc ls [.int u.1]) := by
    intro pc H locs ls u hu hP hD hS hz hd; subst hu; exact hr pc H locs ls _ rfl hP hD hS hz hd
  clear hr
  have hl : lv_has ls 3 [(0, .ref h0), (1, .int p1), (2, .int p2)] := hl
  have hinX11 : ∀ w ∈ wsX110, w ∈ wsX11_odds := fun _ h => List.mem_cons_of_mem _ (List.mem_append_right _ h)
  unfold fX11_odds at h
  suffices key : ∀ (H : Heap) (locs : List Loc), va_P D vwCl (WX11 cy h0 a0 s0) H → va_S A s.heap H locs → W p l e rmX11_odds s m args below meth c H locs 0 0 QQ (F0 m 0 ls []) from key _ _ hP va_S.rf
  clear hP
  intro H locs hP hS
  refine lv_iload_n hx hb dX11_odds_0 rfl (lv_at hl 1 rfl) ?_
  refine ca_z (w' := WX11 cy h0 a0 s0) (rn_S (As := [.int p1]) (rest := []) ⟨hx, hb, hml, hown, hts⟩ (kX11_isAsked l D cy p1 _ rfl H.size) (va_cwS 1 hts gX11_odds_X11_isAsked rfl rfl rfl (by decide +kernel) ⟨Nat.le_of_ble_eq_true rfl, Nat.le_of_ble_eq_true rfl⟩) hK hN hP hD [] rfl rfl rfl hl.1 rfl (Nat.le_of_ble_eq_true rfl) dX11_odds_1 ⟨Nat.le_refl 0, Nat.le_refl 0⟩) hP hD hS hA [] ⟨rfl, rfl, rfl, rfl⟩ (fun b1 H locs hP hD hS => ?_)
  refine lv_if_eq (tgt := 19) hx hb dX11_odds_4 (by decide) (fun c2 => ?_) (fun c2 => ?_)
  · replace h := (if_pos c2).symm.trans h
    refine lv_aload_n hx hb dX11_odds_19 rfl (lv_at hl 0 rfl) ?_
    refine lv_iconst (v := 1) hx hb dX11_odds_20 (by decide) ?_
    obtain ⟨r3, hr3, h⟩ := lt_elim h
    refine ca_z (w' := WX11 cy h0 a0 r3.2) (rn_V (As := [.int (1 : Int32)]) (rest := []) ⟨hx, hb, hml, hown, hts⟩ (kX11_is l D cy h0 a0 s0 (1 : Int32) r3 hr3.symm H.size) (cwV 1 hts gX11_odds_X11_is rfl rfl rfl (by decide +kernel) ⟨Nat.le_of_ble_eq_true rfl, Nat.le_of_ble_eq_true rfl⟩) hK hN hP hD [0, 1, 2, 3, 4, 5, 6, 7, 8, 9, 10, 11, 12, 13] rfl rfl (ci := 11) (q0 := 0) rfl rfl rfl rfl hl.1 rfl (Nat.le_of_ble_eq_true rfl) dX11_odds_21 ⟨Nat.le_refl 0, Nat.le_refl 0⟩) hP hD hS hA [0, 1, 2, 3, 4, 5, 6, 7, 8, 9, 10, 11, 12, 13] ⟨rfl, rfl, rfl, rfl⟩ (fun b4 H locs hP hD hS => ?_)
    exact hret 24 H locs ls (r3.1, r3.2) (Option.some.inj h) hP hD hS b4 dX11_odds_24
  · replace h := (if_neg c2).symm.trans h
    refine lv_iload_n hx hb dX11_odds_7 rfl (lv_at hl 2 rfl) ?_
    refine lv_i2l hx hb dX11_odds_8 rfl ?_
    refine lv_lconst (v := 1) hx hb dX11_odds_9 (by decide) ?_
    refine lv_ldc2 (v := 15) hx hb hown (hts (.constantLong RX11 365 (15)) (List.mem_of_getElem? (i := 1) rfl)) dX11_odds_10 ?_
    refine ca_z (w' := WX11 cy h0 a0 s0) (rn_S (As := [.long p2.toInt64, .long (1 : Int64), .long (15 : Int64)]) (rest := []) ⟨hx, hb, hml, hown, hts⟩ (kX11_isFrom l D cy p2.toInt64 (1 : Int64) (15 : Int64) _ rfl H.size) (va_cwS 3 hts gX11_odds_X11_isFrom rfl rfl rfl (by decide +kernel) ⟨Nat.le_of_ble_eq_true rfl, Nat.le_of_ble_eq_true rfl⟩) hK hN hP hD [] rfl rfl rfl hl.1 rfl (Nat.le_of_ble_eq_true rfl) dX11_odds_13 ⟨Nat.le_refl 0, Nat.le_refl 0⟩) hP hD hS hA [] ⟨rfl, rfl, rfl, rfl⟩ (fun b5 H locs hP hD hS => ?_)
    refine lv_if_ne (tgt := 25) hx hb dX11_odds_16 (by decide) (fun c6 => ?_) (fun c6 => ?_)
    · replace h := (if_neg c6).symm.trans h
      refine lv_aload_n hx hb dX11_odds_25 rfl (lv_at hl 0 rfl) ?_
      refine lv_iload_n hx hb dX11_odds_26 rfl (lv_at hl 1 rfl) ?_
      refine lv_iload_n hx hb dX11_odds_27 rfl (lv_at hl 2 rfl) ?_
      obtain ⟨r7, hr7, h⟩ := bd_elim h
      refine ca_v (w' := WX11 cy h0 a0 r7) (rn_V (As := [.int p1, .int p2]) (rest := []) ⟨hx, hb, hml, hown, hts⟩ (kX11_weighs l D cy h0 a0 s0 p1 p2 r7 hr7 H.size) (cwV 2 hts gX11_odds_X11_weighs rfl rfl rfl (by decide +kernel) ⟨Nat.le_of_ble_eq_true rfl, Nat.le_of_ble_eq_true rfl⟩) hK hN hP hD [0, 1, 2, 3, 4, 5, 6, 7, 8, 9, 10, 11, 12, 13] rfl rfl (ci := 11) (q0 := 0) rfl rfl rfl rfl hl.1 rfl (Nat.le_of_ble_eq_true rfl) dX11_odds_28 ⟨Nat.le_refl 0, Nat.le_refl 0⟩) hP hD hS hA [0, 1, 2, 3, 4, 5, 6, 7, 8, 9, 10, 11, 12, 13] ⟨rfl, rfl, rfl, rfl⟩ (fun H locs hP hD hS => ?_)
      refine lv_aload_n hx hb dX11_odds_31 rfl (lv_at hl 0 rfl) ?_
      refine va_get (D := D) (ci := 11) (v := .long (gl r7 27)) (C := RX11) (T := TX11) (N := 38) hx hb hts hinX11 hown hK hP 0 rfl rfl 27 (by decide) (hts (.fieldLink RX11 359 "KneeBenchModel" "rainy" "J") (List.mem_of_getElem? (i := 2) rfl)) (fun _ h9 => h9) rfl dX11_odds_32 ?_
      refine lv_aload_n hx hb dX11_odds_35 rfl (lv_at hl 0 rfl) ?_
      refine va_get (D := D) (ci := 11) (v := .long (gl r7 28)) (C := RX11) (T := TX11) (N := 38) hx hb hts hinX11 hown hK hP 0 rfl rfl 28 (by decide) (hts (.fieldLink RX11 362 "KneeBenchModel" "dry0" "J") (List.mem_of_getElem? (i := 3) rfl)) (fun _ h9 => h9) rfl dX11_odds_36 ?_
      refine lv_ladd hx hb dX11_odds_39 ?_
      refine lv_lconst (v := 0) hx hb dX11_odds_40 (by decide) ?_
      refine W.lcmp hx hb dX11_odds_41 ?_
      refine lv_if_ne (tgt := 54) hx hb dX11_odds_42 (by decide) (fun c8 => ?_) (fun c8 => ?_)
      · replace h := (if_neg (fun z => c8 (lg_ceq.mpr z))).symm.trans h
        refine lv_aload_n hx hb dX11_odds_54 rfl (lv_at hl 0 rfl) ?_
        refine lv_aload_n hx hb dX11_odds_55 rfl (lv_at hl 0 rfl) ?_
        refine va_get (D := D) (ci := 11) (v := .long (gl r7 27)) (C := RX11) (T := TX11) (N := 38) hx hb hts hinX11 hown hK hP 0 rfl rfl 27 (by decide) (hts (.fieldLink RX11 359 "KneeBenchModel" "rainy" "J") (List.mem_of_getElem? (i := 2) rfl)) (fun _ h9 => h9) rfl dX11_odds_56 ?_
        refine lv_aload_n hx hb dX11_odds_59 rfl (lv_at hl 0 rfl) ?_
        refine va_get (D := D) (ci := 11) (v := .long (gl r7 27)) (C := RX11) (T := TX11) (N := 38) hx hb hts hinX11 hown hK hP 0 rfl rfl 27 (by decide) (hts (.fieldLink RX11 359 "KneeBenchModel" "rainy" "J") (List.mem_of_getElem? (i := 2) rfl)) (fun _ h9 => h9) rfl dX11_odds_60 ?_
        refine lv_aload_n hx hb dX11_odds_63 rfl (lv_at hl 0 rfl) ?_
        refine va_get (D := D) (ci := 11) (v := .long (gl r7 28)) (C := RX11) (T := TX11) (N := 38) hx hb hts hinX11 hown hK hP 0 rfl rfl 28 (by decide) (hts (.fieldLink RX11 362 "KneeBenchModel" "dry0" "J") (List.mem_of_getElem? (i := 3) rfl)) (fun _ h9 => h9) rfl dX11_odds_64 ?_
        refine lv_ladd hx hb dX11_odds_67 ?_
        obtain ⟨r9, hr9, h⟩ := bd_elim h
        refine ca_z (w' := WX11 cy h0 a0 r9.2) (rn_V (As := [.long (gl r7 27), .long ((gl r7 27) + (gl r7 28))]) (rest := []) ⟨hx, hb, hml, hown, hts⟩ (kX11_tellsBy l D cy h0 a0 r7 (gl r7 27) ((gl r7 27) + (gl r7 28)) r9 hr9 H.size) (cwV 2 hts gX11_odds_X11_tellsBy rfl rfl rfl (by decide +kernel) ⟨Nat.le_of_ble_eq_true rfl, Nat.le_of_ble_eq_true rfl⟩) hK hN hP hD [0, 1, 2, 3, 4, 5, 6, 7, 8, 9, 10, 11, 12, 13] rfl rfl (ci := 11) (q0 := 0) rfl rfl rfl rfl hl.1 rfl (Nat.le_of_ble_eq_true rfl) dX11_odds_68 ⟨Nat.le_refl 0, Nat.le_refl 0⟩) hP hD hS hA [0, 1, 2, 3, 4, 5, 6, 7, 8, 9, 10, 11, 12, 13] ⟨rfl, rfl, rfl, rfl⟩ (fun b10 H locs hP hD hS => ?_)
        exact hret 71 H locs ls (r9.1, r9.2) (Option.some.inj h) hP hD hS b10 dX11_odds_71
      · replace h := (if_pos (lg_ceq.mp c8)).symm.trans h
        refine lv_aload_n hx hb dX11_odds_45 rfl (lv_at hl 0 rfl) ?_
        refine lv_bipush (v := 7) hx hb dX11_odds_46 (by decide) ?_
        obtain ⟨r11, hr11, h⟩ := lt_elim h
        refine ca_z (w' := WX11 cy h0 a0 r11.2) (rn_V (As := [.int (7 : Int32)]) (rest := []) ⟨hx, hb, hml, hown, hts⟩ (kX11_is l D cy h0 a0 r7 (7 : Int32) r11 hr11.symm H.size) (cwV 1 hts gX11_odds_X11_is rfl rfl rfl (by decide +kernel) ⟨Nat.le_of_ble_eq_true rfl, Nat.le_of_ble_eq_true rfl⟩) hK hN hP hD [0, 1, 2, 3, 4, 5, 6, 7, 8, 9, 10, 11, 12, 13] rfl rfl (ci := 11) (q0 := 0) rfl rfl rfl rfl hl.1 rfl (Nat.le_of_ble_eq_true rfl) dX11_odds_48 ⟨Nat.le_refl 0, Nat.le_refl 0⟩) hP hD hS hA [0, 1, 2, 3, 4, 5, 6, 7, 8, 9, 10, 11, 12, 13] ⟨rfl, rfl, rfl, rfl⟩ (fun b12 H locs hP hD hS => ?_)
        refine lv_goto (tgt := 71) hx hb dX11_odds_51 (by decide) ?_
        exact hret 71 H locs ls (r11.1, r11.2) (Option.some.inj h) hP hD hS b12 dX11_odds_71
    · replace h := (if_pos c6).symm.trans h
      refine lv_aload_n hx hb dX11_odds_19 rfl (lv_at hl 0 rfl) ?_
      refine lv_iconst (v := 1) hx hb dX11_odds_20 (by decide) ?_
      obtain ⟨r13, hr13, h⟩ := lt_elim h
      refine ca_z (w' := WX11 cy h0 a0 r13.2) (rn_V (As := [.int (1 : Int32)]) (rest := []) ⟨hx, hb, hml, hown, hts⟩ (kX11_is l D cy h0 a0 s0 (1 : Int32) r13 hr13.symm H.size) (cwV 1 hts gX11_odds_X11_is rfl rfl rfl (by decide +kernel) ⟨Nat.le_of_ble_eq_true rfl, Nat.le_of_ble_eq_true rfl⟩) hK hN hP hD [0, 1, 2, 3, 4, 5, 6, 7, 8, 9, 10, 11, 12, 13] rfl rfl (ci := 11) (q0 := 0) rfl rfl rfl rfl hl.1 rfl (Nat.le_of_ble_eq_true rfl) dX11_odds_21 ⟨Nat.le_refl 0, Nat.le_refl 0⟩) hP hD hS hA [0, 1, 2, 3, 4, 5, 6, 7, 8, 9, 10, 11, 12, 13] ⟨rfl, rfl, rfl, rfl⟩ (fun b14 H locs hP hD hS => ?_)
      exact hret 24 H locs ls (r13.1, r13.2) (Option.some.inj h) hP hD hS b14 dX11_odds_24
set_option maxRecDepth 20000 in
theorem ggX11_pour_X11_isTray : GoodIn wsX11_pour wsX11_isTray := goodIn_r _ [7] (by decide +kernel) (by decide +kernel)
set_option maxRecDepth 20000 in
theorem gX11_pour_X11_isTray : GoodIn wsX11_pour (va_wsS RX11 86 yX11_isTray wsX11_isTray) := goodIn_app (goodIn_of _ (by decide +kernel)) ggX11_pour_X11_isTray
set_option maxRecDepth 20000 in
theorem ggX11_pour_X11_is : GoodIn wsX11_pour wsX11_is := goodIn_r _ [11, 12, 13, 14, 15, 16, 17, 18, 19, 20, 21, 22, 23, 24, 25, 26, 27, 28, 29, 30, 31, 32, 33, 34, 35, 36, 37, 38, 39, 40, 41, 42, 43, 44, 45, 46, 47, 48, 49, 50] (by decide +kernel) (by decide +kernel)
set_option maxRecDepth 20000 in
theorem gX11_pour_X11_is : GoodIn wsX11_pour (wsV RX11 82 RX11 yX11_is wsX11_is) := goodIn_app (goodIn_of _ (by decide +kernel)) ggX11_pour_X11_is
theorem dX11_pour_0 : decode cX11_pour 0 = .ok (.iload_n 1, 1) := by decide +kernel
theorem dX11_pour_1 : decode cX11_pour 1 = .ok (.invokestatic 86, 3) := by decide +kernel
theorem dX11_pour_4 : decode cX11_pour 4 = .ok (.ifCond .eq 24, 3) := by decide +kernel
theorem dX11_pour_7 : decode cX11_pour 7 = .ok (.iload_n 3, 1) := by decide +kernel
theorem dX11_pour_8 : decode cX11_pour 8 = .ok (.invokestatic 86, 3) := by decide +kernel
theorem dX11_pour_11 : decode cX11_pour 11 = .ok (.ifCond .eq 17, 3) := by decide +kernel
theorem dX11_pour_14 : decode cX11_pour 14 = .ok (.iload_n 2, 1) := by decide +kernel
theorem dX11_pour_15 : decode cX11_pour 15 = .ok (.ifCond .lt 13, 3) := by decide +kernel
theorem dX11_pour_18 : decode cX11_pour 18 = .ok (.iload 4, 2) := by decide +kernel
theorem dX11_pour_20 : decode cX11_pour 20 = .ok (.ifCond .lt 8, 3) := by decide +kernel
theorem dX11_pour_23 : decode cX11_pour 23 = .ok (.iload 5, 2) := by decide +kernel
theorem dX11_pour_25 : decode cX11_pour 25 = .ok (.ifCond .ge 9, 3) := by decide +kernel
theorem dX11_pour_28 : decode cX11_pour 28 = .ok (.aload_n 0, 1) := by decide +kernel
theorem dX11_pour_29 : decode cX11_pour 29 = .ok (.iconst 1, 1) := by decide +kernel
theorem dX11_pour_30 : decode cX11_pour 30 = .ok (.invokevirtual 82, 3) := by decide +kernel
theorem dX11_pour_33 : decode cX11_pour 33 = .ok (.ireturn, 1) := by decide +kernel
theorem dX11_pour_34 : decode cX11_pour 34 = .ok (.aload_n 0, 1) := by decide +kernel
theorem dX11_pour_35 : decode cX11_pour 35 = .ok (.getfield 24, 3) := by decide +kernel
theorem dX11_pour_38 : decode cX11_pour 38 = .ok (.iload_n 1, 1) := by decide +kernel
theorem dX11_pour_39 : decode cX11_pour 39 = .ok (.iaload, 1) := by decide +kernel
theorem dX11_pour_40 : decode cX11_pour 40 = .ok (.iconst (-1), 1) := by decide +kernel
theorem dX11_pour_41 : decode cX11_pour 41 = .ok (.if_icmp .eq 13, 3) := by decide +kernel
theorem dX11_pour_44 : decode cX11_pour 44 = .ok (.aload_n 0, 1) := by decide +kernel
theorem dX11_pour_45 : decode cX11_pour 45 = .ok (.getfield 24, 3) := by decide +kernel
theorem dX11_pour_48 : decode cX11_pour 48 = .ok (.iload_n 3, 1) := by decide +kernel
theorem dX11_pour_49 : decode cX11_pour 49 = .ok (.iaload, 1) := by decide +kernel
theorem dX11_pour_50 : decode cX11_pour 50 = .ok (.iconst (-1), 1) := by decide +kernel
theorem dX11_pour_51 : decode cX11_pour 51 = .ok (.if_icmp .ne 9, 3) := by decide +kernel
theorem dX11_pour_54 : decode cX11_pour 54 = .ok (.aload_n 0, 1) := by decide +kernel
theorem dX11_pour_55 : decode cX11_pour 55 = .ok (.iconst 2, 1) := by decide +kernel
theorem dX11_pour_56 : decode cX11_pour 56 = .ok (.invokevirtual 82, 3) := by decide +kernel
theorem dX11_pour_59 : decode cX11_pour 59 = .ok (.ireturn, 1) := by decide +kernel
theorem dX11_pour_60 : decode cX11_pour 60 = .ok (.aload_n 0, 1) := by decide +kernel
theorem dX11_pour_61 : decode cX11_pour 61 = .ok (.getfield 21, 3) := by decide +kernel
theorem dX11_pour_64 : decode cX11_pour 64 = .ok (.iload_n 1, 1) := by decide +kernel
theorem dX11_pour_65 : decode cX11_pour 65 = .ok (.iaload, 1) := by decide +kernel
theorem dX11_pour_66 : decode cX11_pour 66 = .ok (.aload_n 0, 1) := by decide +kernel
theorem dX11_pour_67 : decode cX11_pour 67 = .ok (.getfield 21, 3) := by decide +kernel
theorem dX11_pour_70 : decode cX11_pour 70 = .ok (.iload_n 3, 1) := by decide +kernel
theorem dX11_pour_71 : decode cX11_pour 71 = .ok (.iaload, 1) := by decide +kernel
theorem dX11_pour_72 : decode cX11_pour 72 = .ok (.if_icmp .eq 10, 3) := by decide +kernel
theorem dX11_pour_75 : decode cX11_pour 75 = .ok (.aload_n 0, 1) := by decide +kernel
theorem dX11_pour_76 : decode cX11_pour 76 = .ok (.bipush 8, 2) := by decide +kernel
theorem dX11_pour_78 : decode cX11_pour 78 = .ok (.invokevirtual 82, 3) := by decide +kernel
theorem dX11_pour_81 : decode cX11_pour 81 = .ok (.ireturn, 1) := by decide +kernel
theorem dX11_pour_82 : decode cX11_pour 82 = .ok (.iload 5, 2) := by decide +kernel
theorem dX11_pour_84 : decode cX11_pour 84 = .ok (.aload_n 0, 1) := by decide +kernel
theorem dX11_pour_85 : decode cX11_pour 85 = .ok (.getfield 24, 3) := by decide +kernel
theorem dX11_pour_88 : decode cX11_pour 88 = .ok (.iload_n 1, 1) := by decide +kernel
theorem dX11_pour_89 : decode cX11_pour 89 = .ok (.iaload, 1) := by decide +kernel
theorem dX11_pour_90 : decode cX11_pour 90 = .ok (.iload_n 2, 1) := by decide +kernel
theorem dX11_pour_91 : decode cX11_pour 91 = .ok (.isub, 1) := by decide +kernel
theorem dX11_pour_92 : decode cX11_pour 92 = .ok (.if_icmp .gt 17, 3) := by decide +kernel
theorem dX11_pour_95 : decode cX11_pour 95 = .ok (.iload 5, 2) := by decide +kernel
theorem dX11_pour_97 : decode cX11_pour 97 = .ok (.aload_n 0, 1) := by decide +kernel
theorem dX11_pour_98 : decode cX11_pour 98 = .ok (.getfield 24, 3) := by decide +kernel
theorem dX11_pour_101 : decode cX11_pour 101 = .ok (.iload_n 3, 1) := by decide +kernel
theorem dX11_pour_102 : decode cX11_pour 102 = .ok (.iaload, 1) := by decide +kernel
theorem dX11_pour_103 : decode cX11_pour 103 = .ok (.iload 4, 2) := by decide +kernel
theorem dX11_pour_105 : decode cX11_pour 105 = .ok (.isub, 1) := by decide +kernel
theorem dX11_pour_106 : decode cX11_pour 106 = .ok (.if_icmp .le 9, 3) := by decide +kernel
theorem dX11_pour_109 : decode cX11_pour 109 = .ok (.aload_n 0, 1) := by decide +kernel
theorem dX11_pour_110 : decode cX11_pour 110 = .ok (.iconst 3, 1) := by decide +kernel
theorem dX11_pour_111 : decode cX11_pour 111 = .ok (.invokevirtual 82, 3) := by decide +kernel
theorem dX11_pour_114 : decode cX11_pour 114 = .ok (.ireturn, 1) := by decide +kernel
theorem dX11_pour_115 : decode cX11_pour 115 = .ok (.iconst 0, 1) := by decide +kernel
theorem dX11_pour_116 : decode cX11_pour 116 = .ok (.istore 6, 2) := by decide +kernel
theorem dX11_pour_118 : decode cX11_pour 118 = .ok (.iload 6, 2) := by decide +kernel
theorem dX11_pour_120 : decode cX11_pour 120 = .ok (.iload 5, 2) := by decide +kernel
theorem dX11_pour_122 : decode cX11_pour 122 = .ok (.if_icmp .ge 58, 3) := by decide +kernel
theorem dX11_pour_125 : decode cX11_pour 125 = .ok (.iload_n 2, 1) := by decide +kernel
theorem dX11_pour_126 : decode cX11_pour 126 = .ok (.iload 4, 2) := by decide +kernel
theorem dX11_pour_128 : decode cX11_pour 128 = .ok (.if_icmp .ge 13, 3) := by decide +kernel
theorem dX11_pour_131 : decode cX11_pour 131 = .ok (.iload 5, 2) := by decide +kernel
theorem dX11_pour_133 : decode cX11_pour 133 = .ok (.iconst 1, 1) := by decide +kernel
theorem dX11_pour_134 : decode cX11_pour 134 = .ok (.isub, 1) := by decide +kernel
theorem dX11_pour_135 : decode cX11_pour 135 = .ok (.iload 6, 2) := by decide +kernel
theorem dX11_pour_137 : decode cX11_pour 137 = .ok (.isub, 1) := by decide +kernel
theorem dX11_pour_138 : decode cX11_pour 138 = .ok (.goto 5, 3) := by decide +kernel
theorem dX11_pour_141 : decode cX11_pour 141 = .ok (.iload 6, 2) := by decide +kernel
theorem dX11_pour_143 : decode cX11_pour 143 = .ok (.istore 7, 2) := by decide +kernel
theorem dX11_pour_145 : decode cX11_pour 145 = .ok (.aload_n 0, 1) := by decide +kernel
theorem dX11_pour_146 : decode cX11_pour 146 = .ok (.getfield 27, 3) := by decide +kernel
theorem dX11_pour_149 : decode cX11_pour 149 = .ok (.bipush 60, 2) := by decide +kernel
theorem dX11_pour_151 : decode cX11_pour 151 = .ok (.iload_n 3, 1) := by decide +kernel
theorem dX11_pour_152 : decode cX11_pour 152 = .ok (.imul, 1) := by decide +kernel
theorem dX11_pour_153 : decode cX11_pour 153 = .ok (.iload 4, 2) := by decide +kernel
theorem dX11_pour_155 : decode cX11_pour 155 = .ok (.iadd, 1) := by decide +kernel
theorem dX11_pour_156 : decode cX11_pour 156 = .ok (.iload 7, 2) := by decide +kernel
theorem dX11_pour_158 : decode cX11_pour 158 = .ok (.iadd, 1) := by decide +kernel
theorem dX11_pour_159 : decode cX11_pour 159 = .ok (.aload_n 0, 1) := by decide +kernel
theorem dX11_pour_160 : decode cX11_pour 160 = .ok (.getfield 27, 3) := by decide +kernel
theorem dX11_pour_163 : decode cX11_pour 163 = .ok (.bipush 60, 2) := by decide +kernel
theorem dX11_pour_165 : decode cX11_pour 165 = .ok (.iload_n 1, 1) := by decide +kernel
theorem dX11_pour_166 : decode cX11_pour 166 = .ok (.imul, 1) := by decide +kernel
theorem dX11_pour_167 : decode cX11_pour 167 = .ok (.iload_n 2, 1) := by decide +kernel
theorem dX11_pour_168 : decode cX11_pour 168 = .ok (.iadd, 1) := by decide +kernel
theorem dX11_pour_169 : decode cX11_pour 169 = .ok (.iload 7, 2) := by decide +kernel
theorem dX11_pour_171 : decode cX11_pour 171 = .ok (.iadd, 1) := by decide +kernel
theorem dX11_pour_172 : decode cX11_pour 172 = .ok (.laload, 1) := by decide +kernel
theorem dX11_pour_173 : decode cX11_pour 173 = .ok (.lastore, 1) := by decide +kernel
theorem dX11_pour_174 : decode cX11_pour 174 = .ok (.iinc 6 1, 3) := by decide +kernel
theorem dX11_pour_177 : decode cX11_pour 177 = .ok (.goto (-59), 3) := by decide +kernel
theorem dX11_pour_180 : decode cX11_pour 180 = .ok (.aload_n 0, 1) := by decide +kernel
theorem dX11_pour_181 : decode cX11_pour 181 = .ok (.iconst 0, 1) := by decide +kernel
theorem dX11_pour_182 : decode cX11_pour 182 = .ok (.invokevirtual 82, 3) := by decide +kernel
theorem dX11_pour_185 : decode cX11_pour 185 = .ok (.ireturn, 1) := by decide +kernel
noncomputable def fX11_pour_J143 (p1 : Int32) (p2 : Int32) (p3 : Int32) (p4 : Int32) (q118 : Int32 × Rc) (z143_0 : Int32) : Option ((Int32 × Rc) ⊕ Rc) :=
gd (inb ((((60 : Int32) * p1) + p2) + z143_0) 240) (
gd (inb ((((60 : Int32) * p3) + p4) + z143_0) 240) (
lt_ (sb q118.2 7 (vp_updL (gb q118.2 7) ((((60 : Int32) * p3) + p4) + z143_0).toNatClampNeg (gb q118.2 7 ((((60 : Int32) * p1) + p2) + z143_0).toNatClampNeg))) (fun s0_29 =>
some (.inl ((q118.1 + (1 : Int32)), s0_29)))))
noncomputable def fX11_pour_L118 (p1 : Int32) (p2 : Int32) (p3 : Int32) (p4 : Int32) (p5 : Int32) (q118 : Int32 × Rc) : Option ((Int32 × Rc) ⊕ Rc) :=
if p5 ≤ q118.1 then (
some (.inr q118.2)) else (
if p4 ≤ p2 then (
fX11_pour_J143 p1 p2 p3 p4 q118 q118.1) else (
fX11_pour_J143 p1 p2 p3 p4 q118 ((p5 - (1 : Int32)) - q118.1)))
noncomputable def fX11_pour (p1 : Int32) (p2 : Int32) (p3 : Int32) (p4 : Int32) (p5 : Int32) (s0 : Rc) : Option (Int32 × Rc) :=
if (fX11_isTray p1) = (0 : Int32) then (
lt_ (fX11_is (1 : Int32) s0) (fun r3 =>
some (r3.1, r3.2))) else (
if (fX11_isTray p3) = (0 : Int32) then (
lt_ (fX11_is (1 : Int32) s0) (fun r7 =>
some (r7.1, r7.2))) else (
if p2 < (0 : Int32) then (
lt_ (fX11_is (1 : Int32) s0) (fun r10 =>
some (r10.1, r10.2))) else (
if p4 < (0 : Int32) then (
lt_ (fX11_is (1 : Int32) s0) (fun r13 =>
some (r13.1, r13.2))) else (
if (0 : Int32) ≤ p5 then (
gd (inb p1 4) (
if (ga s0 6 p1.toNatClampNeg) = (-1 : Int32) then (
lt_ (fX11_is (2 : Int32) s0) (fun r18 =>
some (r18.1, r18.2))) else (
gd (inb p3 4) (
if (ga s0 6 p3.toNatClampNeg) = (-1 : Int32) then (
lt_ (fX11_is (2 : Int32) s0) (fun r38 =>
some (r38.1, r38.2))) else (
if (ga s0 5 p1.toNatClampNeg) = (ga s0 5 p3.toNatClampNeg) then (
if ((ga s0 6 p1.toNatClampNeg) - p2) < p5 then (
lt_ (fX11_is (3 : Int32) s0) (fun r24 =>
some (r24.1, r24.2))) else (
if p5 ≤ ((ga s0 6 p3.toNatClampNeg) - p4) then (
(loopF (fX11_pour_L118 p1 p2 p3 p4 p5) ((0 : Int32), s0)).bind (fun o118 =>
lt_ (fX11_is (0 : Int32) o118) (fun r32 =>
some (r32.1, r32.2)))) else (
lt_ (fX11_is (3 : Int32) s0) (fun r34 =>
some (r34.1, r34.2))))) else (
lt_ (fX11_is (8 : Int32) s0) (fun r36 =>
some (r36.1, r36.2)))))))) else (
lt_ (fX11_is (1 : Int32) s0) (fun r40 =>
some (r40.1, r40.2)))))))
abbrev rmX11_pour : Room := { frames := 1, cells := 0, slots := 0, locals := 21 }
set_option maxHeartbeats 4000000 in
set_option maxRecDepth 100000 in
theorem kX11_pour (l : Launch) (D : va_G) (cy : Nat → ClassId) (h0 : Nat) (a0 : Nat → Nat) (s0 : Rc) (p1 : Int32) (p2 : Int32) (p3 : Int32) (p4 : Int32) (p5 : Int32) (res : Int32 × Rc) (h : fX11_pour p1 p2 p3 p4 p5 s0 = some res) : CZ l D cy yX11_pour wsX11_pour rmX11_pour [.ref h0, .int p1, .int p2, .int p3, .int p4, .int p5] (WX11 cy h0 a0 s0) (WX11 cy h0 a0 res.2) res.1 := by
  refine CZ.of (cc := cX11_pour) (maxL := 8) (by decide) rfl (Nat.le_of_ble_eq_true rfl) ?_
  intro p e s m args below meth c A QQ ls E hr
  obtain ⟨hx, hb, hml, hown, hts, hK, hN, hP, hD, hA, hl⟩ := E
  have hret : ∀ (pc : Nat) (H : Heap) (locs : List Loc) (ls : Array Slot) (u : Int32 × Rc), u = res → va_P D vwCl (WX11 cy h0 a0 u.2) H → va_D A (WX11 cy h0 a0 u.2) → va_S A s.heap H locs → isb u.1 = true → decode cX11_pour pc = .ok (.ireturn, 1) → W p l e rmX11_pour s m args below meth c H locs 0 0 QQ (F0 m pc ls [.int u.1]) := by
    intro pc H locs ls u hu hP hD hS hz hd; subst hu; exact hr pc H locs ls _ rfl hP hD hS hz hd
  clear hr
  have hl : lv_has ls 8 [(0, .ref h0), (1, .int p1), (2, .int p2), (3, .int p3), (4, .int p4), (5, .int p5)] := hl
  have hinX11 : ∀ w ∈ wsX110, w ∈ wsX11_pour := fun _ h => List.mem_cons_of_mem _ (List.mem_append_right _ h)
  unfold fX11_pour at h
  suffices key : ∀ (H : Heap) (locs : List Loc), va_P D vwCl (WX11 cy h0 a0 s0) H → va_S A s.heap H locs → W p l e rmX11_pour s m args below meth c H locs 0 0 QQ (F0 m 0 ls []) from key _ _ hP va_S.rf
  clear hP
  intro H locs hP hS
  refine lv_iload_n hx hb dX11_pour_0 rfl (lv_at hl 1 rfl) ?_
  refine ca_z (w' := WX11 cy h0 a0 s0) (rn_S (As := [.int p1]) (rest := []) ⟨hx, hb, hml, hown, hts⟩ (kX11_isTray l D cy p1 _ rfl H.size) (va_cwS 1 hts gX11_pour_X11_isTray rfl rfl rfl (by decide +kernel) ⟨Nat.le_of_ble_eq_true rfl, Nat.le_of_ble_eq_true rfl⟩) hK hN hP hD [] rfl rfl rfl hl.1 rfl (Nat.le_of_ble_eq_true rfl) dX11_pour_1 ⟨Nat.le_refl 0, Nat.le_refl 0⟩) hP hD hS hA [] ⟨rfl, rfl, rfl, rfl⟩ (fun b1 H locs hP hD hS => ?_)
  refine lv_if_eq (tgt := 28) hx hb dX11_pour_4 (by decide) (fun c2 => ?_) (fun c2 => ?_)
  · replace h := (if_pos c2).symm.trans h
    refine lv_aload_n hx hb dX11_pour_28 rfl (lv_at hl 0 rfl) ?_
    refine lv_iconst (v := 1) hx hb dX11_pour_29 (by decide) ?_
    obtain ⟨r3, hr3, h⟩ := lt_elim h
    refine ca_z (w' := WX11 cy h0 a0 r3.2) (rn_V (As := [.int (1 : Int32)]) (rest := []) ⟨hx, hb, hml, hown, hts⟩ (kX11_is l D cy h0 a0 s0 (1 : Int32) r3 hr3.symm H.size) (cwV 1 hts gX11_pour_X11_is rfl rfl rfl (by decide +kernel) ⟨Nat.le_of_ble_eq_true rfl, Nat.le_of_ble_eq_true rfl⟩) hK hN hP hD [0, 1, 2, 3, 4, 5, 6, 7, 8, 9, 10, 11, 12, 13] rfl rfl (ci := 11) (q0 := 0) rfl rfl rfl rfl hl.1 rfl (Nat.le_of_ble_eq_true rfl) dX11_pour_30 ⟨Nat.le_refl 0, Nat.le_refl 0⟩) hP hD hS hA [0, 1, 2, 3, 4, 5, 6, 7, 8, 9, 10, 11, 12, 13] ⟨rfl, rfl, rfl, rfl⟩ (fun b4 H locs hP hD hS => ?_)
    exact hret 33 H locs ls (r3.1, r3.2) (Option.some.inj h) hP hD hS b4 dX11_pour_33
  · replace h := (if_neg c2).symm.trans h
    refine lv_iload_n hx hb dX11_pour_7 rfl (lv_at hl 3 rfl) ?_
    refine ca_z (w' := WX11 cy h0 a0 s0) (rn_S (As := [.int p3]) (rest := []) ⟨hx, hb, hml, hown, hts⟩ (kX11_isTray l D cy p3 _ rfl H.size) (va_cwS 1 hts gX11_pour_X11_isTray rfl rfl rfl (by decide +kernel) ⟨Nat.le_of_ble_eq_true rfl, Nat.le_of_ble_eq_true rfl⟩) hK hN hP hD [] rfl rfl rfl hl.1 rfl (Nat.le_of_ble_eq_true rfl) dX11_pour_8 ⟨Nat.le_refl 0, Nat.le_refl 0⟩) hP hD hS hA [] ⟨rfl, rfl, rfl, rfl⟩ (fun b5 H locs hP hD hS => ?_)
    refine lv_if_eq (tgt := 28) hx hb dX11_pour_11 (by decide) (fun c6 => ?_) (fun c6 => ?_)
    · replace h := (if_pos c6).symm.trans h
      refine lv_aload_n hx hb dX11_pour_28 rfl (lv_at hl 0 rfl) ?_
      refine lv_iconst (v := 1) hx hb dX11_pour_29 (by decide) ?_
      obtain ⟨r7, hr7, h⟩ := lt_elim h
      refine ca_z (w' := WX11 cy h0 a0 r7.2) (rn_V (As := [.int (1 : Int32)]) (rest := []) ⟨hx, hb, hml, hown, hts⟩ (kX11_is l D cy h0 a0 s0 (1 : Int32) r7 hr7.symm H.size) (cwV 1 hts gX11_pour_X11_is rfl rfl rfl (by decide +kernel) ⟨Nat.le_of_ble_eq_true rfl, Nat.le_of_ble_eq_true rfl⟩) hK hN hP hD [0, 1, 2, 3, 4, 5, 6, 7, 8, 9, 10, 11, 12, 13] rfl rfl (ci := 11) (q0 := 0) rfl rfl rfl rfl hl.1 rfl (Nat.le_of_ble_eq_true rfl) dX11_pour_30 ⟨Nat.le_refl 0, Nat.le_refl 0⟩) hP hD hS hA [0, 1, 2, 3, 4, 5, 6, 7, 8, 9, 10, 11, 12, 13] ⟨rfl, rfl, rfl, rfl⟩ (fun b8 H locs hP hD hS => ?_)
      exact hret 33 H locs ls (r7.1, r7.2) (Option.some.inj h) hP hD hS b8 dX11_pour_33
    · replace h := (if_neg c6).symm.trans h
      refine lv_iload_n hx hb dX11_pour_14 rfl (lv_at hl 2 rfl) ?_
      refine lv_if_lt (tgt := 28) hx hb dX11_pour_15 (by decide) (fun c9 => ?_) (fun c9 => ?_)
      · replace h := (if_pos c9).symm.trans h
        refine lv_aload_n hx hb dX11_pour_28 rfl (lv_at hl 0 rfl) ?_
        refine lv_iconst (v := 1) hx hb dX11_pour_29 (by decide) ?_
        obtain ⟨r10, hr10, h⟩ := lt_elim h
        refine ca_z (w' := WX11 cy h0 a0 r10.2) (rn_V (As := [.int (1 : Int32)]) (rest := []) ⟨hx, hb, hml, hown, hts⟩ (kX11_is l D cy h0 a0 s0 (1 : Int32) r10 hr10.symm H.size) (cwV 1 hts gX11_pour_X11_is rfl rfl rfl (by decide +kernel) ⟨Nat.le_of_ble_eq_true rfl, Nat.le_of_ble_eq_true rfl⟩) hK hN hP hD [0, 1, 2, 3, 4, 5, 6, 7, 8, 9, 10, 11, 12, 13] rfl rfl (ci := 11) (q0 := 0) rfl rfl rfl rfl hl.1 rfl (Nat.le_of_ble_eq_true rfl) dX11_pour_30 ⟨Nat.le_refl 0, Nat.le_refl 0⟩) hP hD hS hA [0, 1, 2, 3, 4, 5, 6, 7, 8, 9, 10, 11, 12, 13] ⟨rfl, rfl, rfl, rfl⟩ (fun b11 H locs hP hD hS => ?_)
        exact hret 33 H locs ls (r10.1, r10.2) (Option.some.inj h) hP hD hS b11 dX11_pour_33
      · replace h := (if_neg c9).symm.trans h
        refine lv_iload hx hb dX11_pour_18 (lv_at hl 4 rfl) ?_
        refine lv_if_lt (tgt := 28) hx hb dX11_pour_20 (by decide) (fun c12 => ?_) (fun c12 => ?_)
        · replace h := (if_pos c12).symm.trans h
          refine lv_aload_n hx hb dX11_pour_28 rfl (lv_at hl 0 rfl) ?_
          refine lv_iconst (v := 1) hx hb dX11_pour_29 (by decide) ?_
          obtain ⟨r13, hr13, h⟩ := lt_elim h
          refine ca_z (w' := WX11 cy h0 a0 r13.2) (rn_V (As := [.int (1 : Int32)]) (rest := []) ⟨hx, hb, hml, hown, hts⟩ (kX11_is l D cy h0 a0 s0 (1 : Int32) r13 hr13.symm H.size) (cwV 1 hts gX11_pour_X11_is rfl rfl rfl (by decide +kernel) ⟨Nat.le_of_ble_eq_true rfl, Nat.le_of_ble_eq_true rfl⟩) hK hN hP hD [0, 1, 2, 3, 4, 5, 6, 7, 8, 9, 10, 11, 12, 13] rfl rfl (ci := 11) (q0 := 0) rfl rfl rfl rfl hl.1 rfl (Nat.le_of_ble_eq_true rfl) dX11_pour_30 ⟨Nat.le_refl 0, Nat.le_refl 0⟩) hP hD hS hA [0, 1, 2, 3, 4, 5, 6, 7, 8, 9, 10, 11, 12, 13] ⟨rfl, rfl, rfl, rfl⟩ (fun b14 H locs hP hD hS => ?_)
          exact hret 33 H locs ls (r13.1, r13.2) (Option.some.inj h) hP hD hS b14 dX11_pour_33
        · replace h := (if_neg c12).symm.trans h
          refine lv_iload hx hb dX11_pour_23 (lv_at hl 5 rfl) ?_
          refine lv_if_ge (tgt := 34) hx hb dX11_pour_25 (by decide) (fun c15 => ?_) (fun c15 => ?_)
          · replace h := (if_pos c15).symm.trans h
            refine lv_aload_n hx hb dX11_pour_34 rfl (lv_at hl 0 rfl) ?_
            refine va_get (D := D) (ci := 11) (v := .ref (a0 6)) (C := RX11) (T := TX11) (N := 38) hx hb hts hinX11 hown hK hP 0 rfl rfl 6 (by decide) (hts (.fieldLink RX11 24 "KneeBenchModel" "trayMany" "[I") (List.mem_of_getElem? (i := 1) rfl)) (fun _ h9 => h9) rfl dX11_pour_35 ?_
            refine lv_iload_n hx hb dX11_pour_38 rfl (lv_at hl 1 rfl) ?_
            obtain ⟨g16, h⟩ := gd_elim h
            refine va_iald hx hb hK hP 4 1 rfl rfl (inb_in g16) dX11_pour_39 ?_
            refine lv_iconst (v := -1) hx hb dX11_pour_40 (by decide) ?_
            refine lv_icmp_eq (tgt := 54) hx hb dX11_pour_41 (by decide) (fun c17 => ?_) (fun c17 => ?_)
            · replace h := (if_pos c17).symm.trans h
              refine lv_aload_n hx hb dX11_pour_54 rfl (lv_at hl 0 rfl) ?_
              refine lv_iconst (v := 2) hx hb dX11_pour_55 (by decide) ?_
              obtain ⟨r18, hr18, h⟩ := lt_elim h
              refine ca_z (w' := WX11 cy h0 a0 r18.2) (rn_V (As := [.int (2 : Int32)]) (rest := []) ⟨hx, hb, hml, hown, hts⟩ (kX11_is l D cy h0 a0 s0 (2 : Int32) r18 hr18.symm H.size) (cwV 1 hts gX11_pour_X11_is rfl rfl rfl (by decide +kernel) ⟨Nat.le_of_ble_eq_true rfl, Nat.le_of_ble_eq_true rfl⟩) hK hN hP hD [0, 1, 2, 3, 4, 5, 6, 7, 8, 9, 10, 11, 12, 13] rfl rfl (ci := 11) (q0 := 0) rfl rfl rfl rfl hl.1 rfl (Nat.le_of_ble_eq_true rfl) dX11_pour_56 ⟨Nat.le_refl 0, Nat.le_refl 0⟩) hP hD hS hA [0, 1, 2, 3, 4, 5, 6, 7, 8, 9, 10, 11, 12, 13] ⟨rfl, rfl, rfl, rfl⟩ (fun b19 H locs hP hD hS => ?_)
              exact hret 59 H locs ls (r18.1, r18.2) (Option.some.inj h) hP hD hS b19 dX11_pour_59
            · replace h := (if_neg c17).symm.trans h
              refine lv_aload_n hx hb dX11_pour_44 rfl (lv_at hl 0 rfl) ?_
              refine va_get (D := D) (ci := 11) (v := .ref (a0 6)) (C := RX11) (T := TX11) (N := 38) hx hb hts hinX11 hown hK hP 0 rfl rfl 6 (by decide) (hts (.fieldLink RX11 24 "KneeBenchModel" "trayMany" "[I") (List.mem_of_getElem? (i := 1) rfl)) (fun _ h9 => h9) rfl dX11_pour_45 ?_
              refine lv_iload_n hx hb dX11_pour_48 rfl (lv_at hl 3 rfl) ?_
              obtain ⟨g20, h⟩ := gd_elim h
              refine va_iald hx hb hK hP 4 1 rfl rfl (inb_in g20) dX11_pour_49 ?_
              refine lv_iconst (v := -1) hx hb dX11_pour_50 (by decide) ?_
              refine lv_icmp_ne (tgt := 60) hx hb dX11_pour_51 (by decide) (fun c21 => ?_) (fun c21 => ?_)
              · replace h := (if_neg c21).symm.trans h
                refine lv_aload_n hx hb dX11_pour_60 rfl (lv_at hl 0 rfl) ?_
                refine va_get (D := D) (ci := 11) (v := .ref (a0 5)) (C := RX11) (T := TX11) (N := 38) hx hb hts hinX11 hown hK hP 0 rfl rfl 5 (by decide) (hts (.fieldLink RX11 21 "KneeBenchModel" "sort" "[I") (List.mem_of_getElem? (i := 2) rfl)) (fun _ h9 => h9) rfl dX11_pour_61 ?_
                refine lv_iload_n hx hb dX11_pour_64 rfl (lv_at hl 1 rfl) ?_
                refine va_iald hx hb hK hP 3 1 rfl rfl (inb_in g16) dX11_pour_65 ?_
                refine lv_aload_n hx hb dX11_pour_66 rfl (lv_at hl 0 rfl) ?_
                refine va_get (D := D) (ci := 11) (v := .ref (a0 5)) (C := RX11) (T := TX11) (N := 38) hx hb hts hinX11 hown hK hP 0 rfl rfl 5 (by decide) (hts (.fieldLink RX11 21 "KneeBenchModel" "sort" "[I") (List.mem_of_getElem? (i := 2) rfl)) (fun _ h9 => h9) rfl dX11_pour_67 ?_
                refine lv_iload_n hx hb dX11_pour_70 rfl (lv_at hl 3 rfl) ?_
                refine va_iald hx hb hK hP 3 1 rfl rfl (inb_in g20) dX11_pour_71 ?_
                refine lv_icmp_eq (tgt := 82) hx hb dX11_pour_72 (by decide) (fun c22 => ?_) (fun c22 => ?_)
                · replace h := (if_pos c22).symm.trans h
                  refine lv_iload hx hb dX11_pour_82 (lv_at hl 5 rfl) ?_
                  refine lv_aload_n hx hb dX11_pour_84 rfl (lv_at hl 0 rfl) ?_
                  refine va_get (D := D) (ci := 11) (v := .ref (a0 6)) (C := RX11) (T := TX11) (N := 38) hx hb hts hinX11 hown hK hP 0 rfl rfl 6 (by decide) (hts (.fieldLink RX11 24 "KneeBenchModel" "trayMany" "[I") (List.mem_of_getElem? (i := 1) rfl)) (fun _ h9 => h9) rfl dX11_pour_85 ?_
                  refine lv_iload_n hx hb dX11_pour_88 rfl (lv_at hl 1 rfl) ?_
                  refine va_iald hx hb hK hP 4 1 rfl rfl (inb_in g16) dX11_pour_89 ?_
                  refine lv_iload_n hx hb dX11_pour_90 rfl (lv_at hl 2 rfl) ?_
                  refine lv_isub hx hb dX11_pour_91 ?_
                  refine lv_icmp_gt (tgt := 109) hx hb dX11_pour_92 (by decide) (fun c23 => ?_) (fun c23 => ?_)
                  · replace h := (if_pos c23).symm.trans h
                    refine lv_aload_n hx hb dX11_pour_109 rfl (lv_at hl 0 rfl) ?_
                    refine lv_iconst (v := 3) hx hb dX11_pour_110 (by decide) ?_
                    obtain ⟨r24, hr24, h⟩ := lt_elim h
                    refine ca_z (w' := WX11 cy h0 a0 r24.2) (rn_V (As := [.int (3 : Int32)]) (rest := []) ⟨hx, hb, hml, hown, hts⟩ (kX11_is l D cy h0 a0 s0 (3 : Int32) r24 hr24.symm H.size) (cwV 1 hts gX11_pour_X11_is rfl rfl rfl (by decide +kernel) ⟨Nat.le_of_ble_eq_true rfl, Nat.le_of_ble_eq_true rfl⟩) hK hN hP hD [0, 1, 2, 3, 4, 5, 6, 7, 8, 9, 10, 11, 12, 13] rfl rfl (ci := 11) (q0 := 0) rfl rfl rfl rfl hl.1 rfl (Nat.le_of_ble_eq_true rfl) dX11_pour_111 ⟨Nat.le_refl 0, Nat.le_refl 0⟩) hP hD hS hA [0, 1, 2, 3, 4, 5, 6, 7, 8, 9, 10, 11, 12, 13] ⟨rfl, rfl, rfl, rfl⟩ (fun b25 H locs hP hD hS => ?_)
                    exact hret 114 H locs ls (r24.1, r24.2) (Option.some.inj h) hP hD hS b25 dX11_pour_114
                  · replace h := (if_neg c23).symm.trans h
                    refine lv_iload hx hb dX11_pour_95 (lv_at hl 5 rfl) ?_
                    refine lv_aload_n hx hb dX11_pour_97 rfl (lv_at hl 0 rfl) ?_
                    refine va_get (D := D) (ci := 11) (v := .ref (a0 6)) (C := RX11) (T := TX11) (N := 38) hx hb hts hinX11 hown hK hP 0 rfl rfl 6 (by decide) (hts (.fieldLink RX11 24 "KneeBenchModel" "trayMany" "[I") (List.mem_of_getElem? (i := 1) rfl)) (fun _ h9 => h9) rfl dX11_pour_98 ?_
                    refine lv_iload_n hx hb dX11_pour_101 rfl (lv_at hl 3 rfl) ?_
                    refine va_iald hx hb hK hP 4 1 rfl rfl (inb_in g20) dX11_pour_102 ?_
                    refine lv_iload hx hb dX11_pour_103 (lv_at hl 4 rfl) ?_
                    refine lv_isub hx hb dX11_pour_105 ?_
                    refine lv_icmp_le (tgt := 115) hx hb dX11_pour_106 (by decide) (fun c26 => ?_) (fun c26 => ?_)
                    · replace h := (if_pos c26).symm.trans h
                      refine lv_iconst (v := 0) hx hb dX11_pour_115 (by decide) ?_
                      refine lv_istore (lv' := [(6, .int (0 : Int32)), (0, .ref h0), (1, .int p1), (2, .int p2), (3, .int p3), (4, .int p4), (5, .int p5)]) hx hb dX11_pour_116 hl (by decide) rfl (fun ls hl => ?_)
                      have L118 : ∀ (n : Nat) (q118 : Int32 × Rc) (o : Rc), loopO (fX11_pour_L118 p1 p2 p3 p4 p5) n q118 = some o → ∀ (H : Heap) (locs : List Loc) (ls : Array Slot), lv_has ls 8 [(0, .ref h0), (1, .int p1), (2, .int p2), (3, .int p3), (4, .int p4), (5, .int p5), (6, .int q118.1)] → va_P D vwCl (WX11 cy h0 a0 q118.2) H → va_D A (WX11 cy h0 a0 q118.2) → va_S A s.heap H locs → ∀ (kk180 : ∀ (H : Heap) (locs : List Loc) (ls : Array Slot), lv_has ls 8 [(0, .ref h0)] → va_P D vwCl (WX11 cy h0 a0 o) H → va_D A (WX11 cy h0 a0 o) → va_S A s.heap H locs → W p l e rmX11_pour s m args below meth c H locs 0 0 QQ (F0 m 180 ls [])), W p l e rmX11_pour s m args below meth c H locs 0 0 QQ (F0 m 118 ls []) := by
                        intro n
                        induction n with
                        | zero => intro q118 o h; exact absurd h (by rw [loopO_zero]; intro z; cases z)
                        | succ n ih =>
                          intro q118 o h H locs ls hl hP hD hS kk180
                          obtain ⟨w, h, hgo, hst⟩ := loopO_elim h
                          unfold fX11_pour_L118 at h
                          have J143 : ∀ (z143_0 : Int32) (H : Heap) (locs : List Loc) (ls : Array Slot), lv_has ls 8 [(0, .ref h0), (1, .int p1), (2, .int p2), (3, .int p3), (4, .int p4), (5, .int p5), (6, .int q118.1)] → va_P D vwCl (WX11 cy h0 a0 q118.2) H → va_D A (WX11 cy h0 a0 q118.2) → va_S A s.heap H locs → fX11_pour_J143 p1 p2 p3 p4 q118 z143_0 = some w → W p l e rmX11_pour s m args below meth c H locs 0 0 QQ (F0 m 143 ls [.int z143_0]) := by
                            intro z143_0 H locs ls hl hP hD hS h
                            unfold fX11_pour_J143 at h
                            refine lv_istore (lv' := [(7, .int z143_0), (0, .ref h0), (1, .int p1), (2, .int p2), (3, .int p3), (4, .int p4), (5, .int p5), (6, .int q118.1)]) hx hb dX11_pour_143 hl (by decide) rfl (fun ls hl => ?_)
                            refine lv_aload_n hx hb dX11_pour_145 rfl (lv_at hl 1 rfl) ?_
                            refine va_get (D := D) (ci := 11) (v := .ref (a0 7)) (C := RX11) (T := TX11) (N := 38) hx hb hts hinX11 hown hK hP 0 rfl rfl 7 (by decide) (hts (.fieldLink RX11 27 "KneeBenchModel" "trays" "[J") (List.mem_of_getElem? (i := 3) rfl)) (fun _ h9 => h9) rfl dX11_pour_146 ?_
                            refine lv_bipush (v := 60) hx hb dX11_pour_149 (by decide) ?_
                            refine lv_iload_n hx hb dX11_pour_151 rfl (lv_at hl 4 rfl) ?_
                            refine lv_imul hx hb dX11_pour_152 ?_
                            refine lv_iload hx hb dX11_pour_153 (lv_at hl 5 rfl) ?_
                            refine lv_iadd hx hb dX11_pour_155 ?_
                            refine lv_iload hx hb dX11_pour_156 (lv_at hl 0 rfl) ?_
                            refine lv_iadd hx hb dX11_pour_158 ?_
                            refine lv_aload_n hx hb dX11_pour_159 rfl (lv_at hl 1 rfl) ?_
                            refine va_get (D := D) (ci := 11) (v := .ref (a0 7)) (C := RX11) (T := TX11) (N := 38) hx hb hts hinX11 hown hK hP 0 rfl rfl 7 (by decide) (hts (.fieldLink RX11 27 "KneeBenchModel" "trays" "[J") (List.mem_of_getElem? (i := 3) rfl)) (fun _ h9 => h9) rfl dX11_pour_160 ?_
                            refine lv_bipush (v := 60) hx hb dX11_pour_163 (by decide) ?_
                            refine lv_iload_n hx hb dX11_pour_165 rfl (lv_at hl 2 rfl) ?_
                            refine lv_imul hx hb dX11_pour_166 ?_
                            refine lv_iload_n hx hb dX11_pour_167 rfl (lv_at hl 3 rfl) ?_
                            refine lv_iadd hx hb dX11_pour_168 ?_
                            refine lv_iload hx hb dX11_pour_169 (lv_at hl 0 rfl) ?_
                            refine lv_iadd hx hb dX11_pour_171 ?_
                            obtain ⟨g27, h⟩ := gd_elim h
                            refine va_lald hx hb hK hP 5 2 rfl rfl (inb_in g27) dX11_pour_172 ?_
                            obtain ⟨g28, h⟩ := gd_elim h
                            obtain ⟨s0_29, es, h⟩ := lt_elim h
                            refine va_last hx hb hK hP hD hS 5 2 rfl rfl (inb_in g28) dX11_pour_173 (fun H locs hP hD hS => ?_)
                            have hP : va_P D vwCl (WX11 cy h0 a0 s0_29) H := by rw [es]; exact hP
                            have hD : va_D A (WX11 cy h0 a0 s0_29) := by rw [es]; exact hD
                            clear es
                            refine lv_iinc (v := (q118.1 + (1 : Int32))) (lv' := [(6, .int (q118.1 + (1 : Int32))), (7, .int z143_0), (0, .ref h0), (1, .int p1), (2, .int p2), (3, .int p3), (4, .int p4), (5, .int p5)]) hx hb dX11_pour_174 hl (k := 7) rfl rfl (by decide) rfl (fun ls hl => ?_)
                            refine lv_goto (tgt := 118) hx hb dX11_pour_177 (by decide) ?_
                            exact ih _ o (hgo _ (Option.some.inj h).symm) H locs ls (lv_sub hl [2, 3, 4, 5, 6, 7, 0] rfl) hP hD hS kk180
                          refine lv_iload hx hb dX11_pour_118 (lv_at hl 6 rfl) ?_
                          refine lv_iload hx hb dX11_pour_120 (lv_at hl 5 rfl) ?_
                          refine lv_icmp_ge (tgt := 180) hx hb dX11_pour_122 (by decide) (fun c30 => ?_) (fun c30 => ?_)
                          · replace h := (if_pos c30).symm.trans h
                            have eo := hst _ (Option.some.inj h).symm
                            subst eo
                            exact kk180 H locs ls (lv_sub hl [0] rfl) hP hD hS
                          · replace h := (if_neg c30).symm.trans h
                            refine lv_iload_n hx hb dX11_pour_125 rfl (lv_at hl 2 rfl) ?_
                            refine lv_iload hx hb dX11_pour_126 (lv_at hl 4 rfl) ?_
                            refine lv_icmp_ge (tgt := 141) hx hb dX11_pour_128 (by decide) (fun c31 => ?_) (fun c31 => ?_)
                            · replace h := (if_pos c31).symm.trans h
                              refine lv_iload hx hb dX11_pour_141 (lv_at hl 6 rfl) ?_
                              exact J143 q118.1 H locs ls (lv_sub hl [0, 1, 2, 3, 4, 5, 6] rfl) hP hD hS h
                            · replace h := (if_neg c31).symm.trans h
                              refine lv_iload hx hb dX11_pour_131 (lv_at hl 5 rfl) ?_
                              refine lv_iconst (v := 1) hx hb dX11_pour_133 (by decide) ?_
                              refine lv_isub hx hb dX11_pour_134 ?_
                              refine lv_iload hx hb dX11_pour_135 (lv_at hl 6 rfl) ?_
                              refine lv_isub hx hb dX11_pour_137 ?_
                              refine lv_goto (tgt := 143) hx hb dX11_pour_138 (by decide) ?_
                              exact J143 ((p5 - (1 : Int32)) - q118.1) H locs ls (lv_sub hl [0, 1, 2, 3, 4, 5, 6] rfl) hP hD hS h
                      obtain ⟨o118, ho118, h⟩ := bd_elim h
                      obtain ⟨n118, hn118⟩ := loopF_some ho118
                      refine L118 n118 _ o118 hn118 H locs ls (lv_sub hl [1, 2, 3, 4, 5, 6, 0] rfl) hP hD hS (fun H locs ls hl hP hD hS => ?_)
                      refine lv_aload_n hx hb dX11_pour_180 rfl (lv_at hl 0 rfl) ?_
                      refine lv_iconst (v := 0) hx hb dX11_pour_181 (by decide) ?_
                      obtain ⟨r32, hr32, h⟩ := lt_elim h
                      refine ca_z (w' := WX11 cy h0 a0 r32.2) (rn_V (As := [.int (0 : Int32)]) (rest := []) ⟨hx, hb, hml, hown, hts⟩ (kX11_is l D cy h0 a0 o118 (0 : Int32) r32 hr32.symm H.size) (cwV 1 hts gX11_pour_X11_is rfl rfl rfl (by decide +kernel) ⟨Nat.le_of_ble_eq_true rfl, Nat.le_of_ble_eq_true rfl⟩) hK hN hP hD [0, 1, 2, 3, 4, 5, 6, 7, 8, 9, 10, 11, 12, 13] rfl rfl (ci := 11) (q0 := 0) rfl rfl rfl rfl hl.1 rfl (Nat.le_of_ble_eq_true rfl) dX11_pour_182 ⟨Nat.le_refl 0, Nat.le_refl 0⟩) hP hD hS hA [0, 1, 2, 3, 4, 5, 6, 7, 8, 9, 10, 11, 12, 13] ⟨rfl, rfl, rfl, rfl⟩ (fun b33 H locs hP hD hS => ?_)
                      exact hret 185 H locs ls (r32.1, r32.2) (Option.some.inj h) hP hD hS b33 dX11_pour_185
                    · replace h := (if_neg c26).symm.trans h
                      refine lv_aload_n hx hb dX11_pour_109 rfl (lv_at hl 0 rfl) ?_
                      refine lv_iconst (v := 3) hx hb dX11_pour_110 (by decide) ?_
                      obtain ⟨r34, hr34, h⟩ := lt_elim h
                      refine ca_z (w' := WX11 cy h0 a0 r34.2) (rn_V (As := [.int (3 : Int32)]) (rest := []) ⟨hx, hb, hml, hown, hts⟩ (kX11_is l D cy h0 a0 s0 (3 : Int32) r34 hr34.symm H.size) (cwV 1 hts gX11_pour_X11_is rfl rfl rfl (by decide +kernel) ⟨Nat.le_of_ble_eq_true rfl, Nat.le_of_ble_eq_true rfl⟩) hK hN hP hD [0, 1, 2, 3, 4, 5, 6, 7, 8, 9, 10, 11, 12, 13] rfl rfl (ci := 11) (q0 := 0) rfl rfl rfl rfl hl.1 rfl (Nat.le_of_ble_eq_true rfl) dX11_pour_111 ⟨Nat.le_refl 0, Nat.le_refl 0⟩) hP hD hS hA [0, 1, 2, 3, 4, 5, 6, 7, 8, 9, 10, 11, 12, 13] ⟨rfl, rfl, rfl, rfl⟩ (fun b35 H locs hP hD hS => ?_)
                      exact hret 114 H locs ls (r34.1, r34.2) (Option.some.inj h) hP hD hS b35 dX11_pour_114
                · replace h := (if_neg c22).symm.trans h
                  refine lv_aload_n hx hb dX11_pour_75 rfl (lv_at hl 0 rfl) ?_
                  refine lv_bipush (v := 8) hx hb dX11_pour_76 (by decide) ?_
                  obtain ⟨r36, hr36, h⟩ := lt_elim h
                  refine ca_z (w' := WX11 cy h0 a0 r36.2) (rn_V (As := [.int (8 : Int32)]) (rest := []) ⟨hx, hb, hml, hown, hts⟩ (kX11_is l D cy h0 a0 s0 (8 : Int32) r36 hr36.symm H.size) (cwV 1 hts gX11_pour_X11_is rfl rfl rfl (by decide +kernel) ⟨Nat.le_of_ble_eq_true rfl, Nat.le_of_ble_eq_true rfl⟩) hK hN hP hD [0, 1, 2, 3, 4, 5, 6, 7, 8, 9, 10, 11, 12, 13] rfl rfl (ci := 11) (q0 := 0) rfl rfl rfl rfl hl.1 rfl (Nat.le_of_ble_eq_true rfl) dX11_pour_78 ⟨Nat.le_refl 0, Nat.le_refl 0⟩) hP hD hS hA [0, 1, 2, 3, 4, 5, 6, 7, 8, 9, 10, 11, 12, 13] ⟨rfl, rfl, rfl, rfl⟩ (fun b37 H locs hP hD hS => ?_)
                  exact hret 81 H locs ls (r36.1, r36.2) (Option.some.inj h) hP hD hS b37 dX11_pour_81
              · replace h := (if_pos c21).symm.trans h
                refine lv_aload_n hx hb dX11_pour_54 rfl (lv_at hl 0 rfl) ?_
                refine lv_iconst (v := 2) hx hb dX11_pour_55 (by decide) ?_
                obtain ⟨r38, hr38, h⟩ := lt_elim h
                refine ca_z (w' := WX11 cy h0 a0 r38.2) (rn_V (As := [.int (2 : Int32)]) (rest := []) ⟨hx, hb, hml, hown, hts⟩ (kX11_is l D cy h0 a0 s0 (2 : Int32) r38 hr38.symm H.size) (cwV 1 hts gX11_pour_X11_is rfl rfl rfl (by decide +kernel) ⟨Nat.le_of_ble_eq_true rfl, Nat.le_of_ble_eq_true rfl⟩) hK hN hP hD [0, 1, 2, 3, 4, 5, 6, 7, 8, 9, 10, 11, 12, 13] rfl rfl (ci := 11) (q0 := 0) rfl rfl rfl rfl hl.1 rfl (Nat.le_of_ble_eq_true rfl) dX11_pour_56 ⟨Nat.le_refl 0, Nat.le_refl 0⟩) hP hD hS hA [0, 1, 2, 3, 4, 5, 6, 7, 8, 9, 10, 11, 12, 13] ⟨rfl, rfl, rfl, rfl⟩ (fun b39 H locs hP hD hS => ?_)
                exact hret 59 H locs ls (r38.1, r38.2) (Option.some.inj h) hP hD hS b39 dX11_pour_59
          · replace h := (if_neg c15).symm.trans h
            refine lv_aload_n hx hb dX11_pour_28 rfl (lv_at hl 0 rfl) ?_
            refine lv_iconst (v := 1) hx hb dX11_pour_29 (by decide) ?_
            obtain ⟨r40, hr40, h⟩ := lt_elim h
            refine ca_z (w' := WX11 cy h0 a0 r40.2) (rn_V (As := [.int (1 : Int32)]) (rest := []) ⟨hx, hb, hml, hown, hts⟩ (kX11_is l D cy h0 a0 s0 (1 : Int32) r40 hr40.symm H.size) (cwV 1 hts gX11_pour_X11_is rfl rfl rfl (by decide +kernel) ⟨Nat.le_of_ble_eq_true rfl, Nat.le_of_ble_eq_true rfl⟩) hK hN hP hD [0, 1, 2, 3, 4, 5, 6, 7, 8, 9, 10, 11, 12, 13] rfl rfl (ci := 11) (q0 := 0) rfl rfl rfl rfl hl.1 rfl (Nat.le_of_ble_eq_true rfl) dX11_pour_30 ⟨Nat.le_refl 0, Nat.le_refl 0⟩) hP hD hS hA [0, 1, 2, 3, 4, 5, 6, 7, 8, 9, 10, 11, 12, 13] ⟨rfl, rfl, rfl, rfl⟩ (fun b41 H locs hP hD hS => ?_)
            exact hret 33 H locs ls (r40.1, r40.2) (Option.some.inj h) hP hD hS b41 dX11_pour_33
set_option maxRecDepth 20000 in
theorem ggX11_quiet_X11_isFarmer : GoodIn wsX11_quiet wsX11_isFarmer := goodIn_r _ [10, 1, 27, 28, 29, 30, 31, 32, 33, 34, 35, 36, 37, 38, 39, 40, 41, 42, 43, 44, 45, 46, 47, 48, 49, 50, 51, 52, 53, 54, 55, 56, 57, 58, 59, 60, 61, 62, 63, 64] (by decide +kernel) (by decide +kernel)
set_option maxRecDepth 20000 in
theorem gX11_quiet_X11_isFarmer : GoodIn wsX11_quiet (wsV RX11 267 RX11 yX11_isFarmer wsX11_isFarmer) := goodIn_app (goodIn_of _ (by decide +kernel)) ggX11_quiet_X11_isFarmer
set_option maxRecDepth 20000 in
theorem ggX11_quiet_X11_refuse : GoodIn wsX11_quiet wsX11_refuse := goodIn_r _ [14, 15, 27, 28, 29, 30, 31, 32, 33, 34, 35, 36, 37, 38, 39, 40, 41, 42, 43, 44, 45, 46, 47, 48, 49, 50, 51, 52, 53, 54, 55, 56, 57, 58, 59, 60, 61, 62, 63, 64] (by decide +kernel) (by decide +kernel)
set_option maxRecDepth 20000 in
theorem gX11_quiet_X11_refuse : GoodIn wsX11_quiet (wsV RX11 75 RX11 yX11_refuse wsX11_refuse) := goodIn_app (goodIn_of _ (by decide +kernel)) ggX11_quiet_X11_refuse
set_option maxRecDepth 20000 in
theorem ggX11_quiet_X11_felt : GoodIn wsX11_quiet wsX11_felt := goodIn_r _ [19, 1, 20, 21, 9, 22, 27, 28, 29, 30, 31, 32, 33, 34, 35, 36, 37, 38, 39, 40, 41, 42, 43, 44, 45, 46, 47, 48, 49, 50, 51, 52, 53, 54, 55, 56, 57, 58, 59, 60, 61, 62, 63, 64] (by decide +kernel) (by decide +kernel)
set_option maxRecDepth 20000 in
theorem gX11_quiet_X11_felt : GoodIn wsX11_quiet (wsV RX11 313 RX11 yX11_felt wsX11_felt) := goodIn_app (goodIn_of _ (by decide +kernel)) ggX11_quiet_X11_felt
set_option maxRecDepth 20000 in
theorem ggX11_quiet_X11_gives : GoodIn wsX11_quiet wsX11_gives := goodIn_r _ [26, 15, 27, 28, 29, 30, 31, 32, 33, 34, 35, 36, 37, 38, 39, 40, 41, 42, 43, 44, 45, 46, 47, 48, 49, 50, 51, 52, 53, 54, 55, 56, 57, 58, 59, 60, 61, 62, 63, 64] (by decide +kernel) (by decide +kernel)
set_option maxRecDepth 20000 in
theorem gX11_quiet_X11_gives : GoodIn wsX11_quiet (wsV RX11 79 RX11 yX11_gives wsX11_gives) := goodIn_app (goodIn_of _ (by decide +kernel)) ggX11_quiet_X11_gives
theorem dX11_quiet_0 : decode cX11_quiet 0 = .ok (.aload_n 0, 1) := by decide +kernel
theorem dX11_quiet_1 : decode cX11_quiet 1 = .ok (.iload_n 1, 1) := by decide +kernel
theorem dX11_quiet_2 : decode cX11_quiet 2 = .ok (.invokevirtual 267, 3) := by decide +kernel
theorem dX11_quiet_5 : decode cX11_quiet 5 = .ok (.ifCond .ne 9, 3) := by decide +kernel
theorem dX11_quiet_8 : decode cX11_quiet 8 = .ok (.aload_n 0, 1) := by decide +kernel
theorem dX11_quiet_9 : decode cX11_quiet 9 = .ok (.iconst 1, 1) := by decide +kernel
theorem dX11_quiet_10 : decode cX11_quiet 10 = .ok (.invokevirtual 75, 3) := by decide +kernel
theorem dX11_quiet_13 : decode cX11_quiet 13 = .ok (.ireturn, 1) := by decide +kernel
theorem dX11_quiet_14 : decode cX11_quiet 14 = .ok (.iconst 0, 1) := by decide +kernel
theorem dX11_quiet_15 : decode cX11_quiet 15 = .ok (.istore_n 2, 1) := by decide +kernel
theorem dX11_quiet_16 : decode cX11_quiet 16 = .ok (.iconst 0, 1) := by decide +kernel
theorem dX11_quiet_17 : decode cX11_quiet 17 = .ok (.istore_n 3, 1) := by decide +kernel
theorem dX11_quiet_18 : decode cX11_quiet 18 = .ok (.iconst 0, 1) := by decide +kernel
theorem dX11_quiet_19 : decode cX11_quiet 19 = .ok (.istore 4, 2) := by decide +kernel
theorem dX11_quiet_21 : decode cX11_quiet 21 = .ok (.iload 4, 2) := by decide +kernel
theorem dX11_quiet_23 : decode cX11_quiet 23 = .ok (.aload_n 0, 1) := by decide +kernel
theorem dX11_quiet_24 : decode cX11_quiet 24 = .ok (.getfield 7, 3) := by decide +kernel
theorem dX11_quiet_27 : decode cX11_quiet 27 = .ok (.iconst 1, 1) := by decide +kernel
theorem dX11_quiet_28 : decode cX11_quiet 28 = .ok (.iaload, 1) := by decide +kernel
theorem dX11_quiet_29 : decode cX11_quiet 29 = .ok (.if_icmp .ge 33, 3) := by decide +kernel
theorem dX11_quiet_32 : decode cX11_quiet 32 = .ok (.aload_n 0, 1) := by decide +kernel
theorem dX11_quiet_33 : decode cX11_quiet 33 = .ok (.iload_n 1, 1) := by decide +kernel
theorem dX11_quiet_34 : decode cX11_quiet 34 = .ok (.iload 4, 2) := by decide +kernel
theorem dX11_quiet_36 : decode cX11_quiet 36 = .ok (.invokevirtual 313, 3) := by decide +kernel
theorem dX11_quiet_39 : decode cX11_quiet 39 = .ok (.ifCond .eq 7, 3) := by decide +kernel
theorem dX11_quiet_42 : decode cX11_quiet 42 = .ok (.iconst 0, 1) := by decide +kernel
theorem dX11_quiet_43 : decode cX11_quiet 43 = .ok (.goto 6, 3) := by decide +kernel
theorem dX11_quiet_46 : decode cX11_quiet 46 = .ok (.iload_n 3, 1) := by decide +kernel
theorem dX11_quiet_47 : decode cX11_quiet 47 = .ok (.iconst 1, 1) := by decide +kernel
theorem dX11_quiet_48 : decode cX11_quiet 48 = .ok (.iadd, 1) := by decide +kernel
theorem dX11_quiet_49 : decode cX11_quiet 49 = .ok (.istore_n 3, 1) := by decide +kernel
theorem dX11_quiet_50 : decode cX11_quiet 50 = .ok (.iload_n 2, 1) := by decide +kernel
theorem dX11_quiet_51 : decode cX11_quiet 51 = .ok (.iload_n 3, 1) := by decide +kernel
theorem dX11_quiet_52 : decode cX11_quiet 52 = .ok (.invokestatic 341, 3) := by decide +kernel
theorem dX11_quiet_55 : decode cX11_quiet 55 = .ok (.istore_n 2, 1) := by decide +kernel
theorem dX11_quiet_56 : decode cX11_quiet 56 = .ok (.iinc 4 1, 3) := by decide +kernel
theorem dX11_quiet_59 : decode cX11_quiet 59 = .ok (.goto (-38), 3) := by decide +kernel
theorem dX11_quiet_62 : decode cX11_quiet 62 = .ok (.aload_n 0, 1) := by decide +kernel
theorem dX11_quiet_63 : decode cX11_quiet 63 = .ok (.iload_n 2, 1) := by decide +kernel
theorem dX11_quiet_64 : decode cX11_quiet 64 = .ok (.invokevirtual 79, 3) := by decide +kernel
theorem dX11_quiet_67 : decode cX11_quiet 67 = .ok (.ireturn, 1) := by decide +kernel
noncomputable def fX11_quiet_J49 (q21 : Int32 × Int32 × Int32) (z49_0 : Int32) : Option ((Int32 × Int32 × Int32) ⊕ Int32) :=
lt_ (if q21.1 < z49_0 then z49_0 else q21.1) (fun x3 =>
some (.inl (x3, z49_0, (q21.2.2 + (1 : Int32)))))
noncomputable def fX11_quiet_L21 (p1 : Int32) (s0 : Rc) (q21 : Int32 × Int32 × Int32) : Option ((Int32 × Int32 × Int32) ⊕ Int32) :=
if (ga s0 0 (1 : Int32).toNatClampNeg) ≤ q21.2.2 then (
some (.inr q21.1)) else (
(fX11_felt p1 q21.2.2 s0).bind (fun r5 =>
if r5 = (0 : Int32) then (
fX11_quiet_J49 q21 (q21.2.1 + (1 : Int32))) else (
fX11_quiet_J49 q21 (0 : Int32))))
noncomputable def fX11_quiet (p1 : Int32) (s0 : Rc) : Option (Int32 × Rc) :=
if (fX11_isFarmer p1 s0) = (0 : Int32) then (
lt_ (fX11_refuse (1 : Int32) s0) (fun r9 =>
some (r9.1, r9.2))) else (
(loopF (fX11_quiet_L21 p1 s0) ((0 : Int32), (0 : Int32), (0 : Int32))).bind (fun o21 =>
lt_ (fX11_gives o21 s0) (fun r8 =>
some (r8.1, r8.2))))
abbrev rmX11_quiet : Room := { frames := 2, cells := 0, slots := 0, locals := 43 }
set_option maxHeartbeats 4000000 in
set_option maxRecDepth 100000 in
theorem kX11_quiet (l : Launch) (D : va_G) (cy : Nat → ClassId) (h0 : Nat) (a0 : Nat → Nat) (s0 : Rc) (p1 : Int32) (res : Int32 × Rc) (h : fX11_quiet p1 s0 = some res) : CI l D cy yX11_quiet wsX11_quiet rmX11_quiet [.ref h0, .int p1] (WX11 cy h0 a0 s0) (WX11 cy h0 a0 res.2) res.1 := by
  refine CI.of (cc := cX11_quiet) (maxL := 5) (by decide) rfl (Nat.le_of_ble_eq_true rfl) ?_
  intro p e s m args below meth c A QQ ls E hr
  obtain ⟨hx, hb, hml, hown, hts, hK, hN, hP, hD, hA, hl⟩ := E
  have hret : ∀ (pc : Nat) (H : Heap) (locs : List Loc) (ls : Array Slot) (u : Int32 × Rc), u = res → va_P D vwCl (WX11 cy h0 a0 u.2) H → va_D A (WX11 cy h0 a0 u.2) → va_S A s.heap H locs → decode cX11_quiet pc = .ok (.ireturn, 1) → W p l e rmX11_quiet s m args below meth c H locs 0 0 QQ (F0 m pc ls [.int u.1]) := by
    intro pc H locs ls u hu hP hD hS hd; subst hu; exact hr pc H locs ls _ rfl hP hD hS hd
  clear hr
  have hl : lv_has ls 5 [(0, .ref h0), (1, .int p1)] := hl
  have hinX11 : ∀ w ∈ wsX110, w ∈ wsX11_quiet := fun _ h => List.mem_cons_of_mem _ (List.mem_append_right _ h)
  unfold fX11_quiet at h
  suffices key : ∀ (H : Heap) (locs : List Loc), va_P D vwCl (WX11 cy h0 a0 s0) H → va_S A s.heap H locs → W p l e rmX11_quiet s m args below meth c H locs 0 0 QQ (F0 m 0 ls []) from key _ _ hP va_S.rf
  clear hP
  intro H locs hP hS
  refine lv_aload_n hx hb dX11_quiet_0 rfl (lv_at hl 0 rfl) ?_
  refine lv_iload_n hx hb dX11_quiet_1 rfl (lv_at hl 1 rfl) ?_
  refine ca_z (w' := WX11 cy h0 a0 s0) (rn_V (As := [.int p1]) (rest := []) ⟨hx, hb, hml, hown, hts⟩ (kX11_isFarmer l D cy h0 a0 s0 p1 _ rfl H.size) (cwV 1 hts gX11_quiet_X11_isFarmer rfl rfl rfl (by decide +kernel) ⟨Nat.le_of_ble_eq_true rfl, Nat.le_of_ble_eq_true rfl⟩) hK hN hP hD [0, 1, 2, 3, 4, 5, 6, 7, 8, 9, 10, 11, 12, 13] rfl rfl (ci := 11) (q0 := 0) rfl rfl rfl rfl hl.1 rfl (Nat.le_of_ble_eq_true rfl) dX11_quiet_2 ⟨Nat.le_refl 0, Nat.le_refl 0⟩) hP hD hS hA [0, 1, 2, 3, 4, 5, 6, 7, 8, 9, 10, 11, 12, 13] ⟨rfl, rfl, rfl, rfl⟩ (fun b1 H locs hP hD hS => ?_)
  refine lv_if_ne (tgt := 14) hx hb dX11_quiet_5 (by decide) (fun c2 => ?_) (fun c2 => ?_)
  · replace h := (if_neg c2).symm.trans h
    refine lv_iconst (v := 0) hx hb dX11_quiet_14 (by decide) ?_
    refine lv_istore_n (lv' := [(2, .int (0 : Int32)), (0, .ref h0), (1, .int p1)]) hx hb dX11_quiet_15 rfl hl (by decide) rfl (fun ls hl => ?_)
    refine lv_iconst (v := 0) hx hb dX11_quiet_16 (by decide) ?_
    refine lv_istore_n (lv' := [(3, .int (0 : Int32)), (2, .int (0 : Int32)), (0, .ref h0), (1, .int p1)]) hx hb dX11_quiet_17 rfl hl (by decide) rfl (fun ls hl => ?_)
    refine lv_iconst (v := 0) hx hb dX11_quiet_18 (by decide) ?_
    refine lv_istore (lv' := [(4, .int (0 : Int32)), (3, .int (0 : Int32)), (2, .int (0 : Int32)), (0, .ref h0), (1, .int p1)]) hx hb dX11_quiet_19 hl (by decide) rfl (fun ls hl => ?_)
    have L21 : ∀ (n : Nat) (q21 : Int32 × Int32 × Int32) (o : Int32), loopO (fX11_quiet_L21 p1 s0) n q21 = some o → ∀ (H : Heap) (locs : List Loc) (ls : Array Slot), lv_has ls 5 [(0, .ref h0), (1, .int p1), (2, .int q21.1), (3, .int q21.2.1), (4, .int q21.2.2)] → va_P D vwCl (WX11 cy h0 a0 s0) H → va_D A (WX11 cy h0 a0 s0) → va_S A s.heap H locs → ∀ (kk62 : ∀ (H : Heap) (locs : List Loc) (ls : Array Slot), lv_has ls 5 [(0, .ref h0), (2, .int o)] → va_P D vwCl (WX11 cy h0 a0 s0) H → va_D A (WX11 cy h0 a0 s0) → va_S A s.heap H locs → W p l e rmX11_quiet s m args below meth c H locs 0 0 QQ (F0 m 62 ls [])), W p l e rmX11_quiet s m args below meth c H locs 0 0 QQ (F0 m 21 ls []) := by
      intro n
      induction n with
      | zero => intro q21 o h; exact absurd h (by rw [loopO_zero]; intro z; cases z)
      | succ n ih =>
        intro q21 o h H locs ls hl hP hD hS kk62
        obtain ⟨w, h, hgo, hst⟩ := loopO_elim h
        unfold fX11_quiet_L21 at h
        have J49 : ∀ (z49_0 : Int32) (H : Heap) (locs : List Loc) (ls : Array Slot), lv_has ls 5 [(0, .ref h0), (1, .int p1), (2, .int q21.1), (4, .int q21.2.2)] → va_P D vwCl (WX11 cy h0 a0 s0) H → va_D A (WX11 cy h0 a0 s0) → va_S A s.heap H locs → fX11_quiet_J49 q21 z49_0 = some w → W p l e rmX11_quiet s m args below meth c H locs 0 0 QQ (F0 m 49 ls [.int z49_0]) := by
          intro z49_0 H locs ls hl hP hD hS h
          unfold fX11_quiet_J49 at h
          refine lv_istore_n (lv' := [(3, .int z49_0), (0, .ref h0), (1, .int p1), (2, .int q21.1), (4, .int q21.2.2)]) hx hb dX11_quiet_49 rfl hl (by decide) rfl (fun ls hl => ?_)
          refine lv_iload_n hx hb dX11_quiet_50 rfl (lv_at hl 3 rfl) ?_
          refine lv_iload_n hx hb dX11_quiet_51 rfl (lv_at hl 0 rfl) ?_
          refine va_mmax hx hb (hml.trans hl.1.symm) hown (hts (.methodLink RX11 341 Lib.Math.max.name) (List.mem_of_getElem? (i := 2) rfl)) (hts (.static Lib.Math.max.name) (List.mem_of_getElem? (i := 3) rfl)) (hts (.initialized "java/lang/Math") (List.mem_of_getElem? (i := 4) rfl)) (hts (.code Lib.Math.max.name Lib.Math.max.code 2 (some .int)) (List.mem_of_getElem? (i := 5) rfl)) (Nat.le_of_ble_eq_true rfl) (Nat.le_of_ble_eq_true rfl) (Nat.le_refl 0) (Nat.le_refl 0) dX11_quiet_52 ?_
          refine lv_topi (fun x3 ex3 => ?_)
          replace h := lt_use h x3 ex3
          refine lv_istore_n (lv' := [(2, .int x3), (3, .int z49_0), (0, .ref h0), (1, .int p1), (4, .int q21.2.2)]) hx hb dX11_quiet_55 rfl hl (by decide) rfl (fun ls hl => ?_)
          refine lv_iinc (v := (q21.2.2 + (1 : Int32))) (lv' := [(4, .int (q21.2.2 + (1 : Int32))), (2, .int x3), (3, .int z49_0), (0, .ref h0), (1, .int p1)]) hx hb dX11_quiet_56 hl (k := 4) rfl rfl (by decide) rfl (fun ls hl => ?_)
          refine lv_goto (tgt := 21) hx hb dX11_quiet_59 (by decide) ?_
          exact ih _ o (hgo _ (Option.some.inj h).symm) H locs ls (lv_sub hl [3, 4, 1, 2, 0] rfl) hP hD hS kk62
        refine lv_iload hx hb dX11_quiet_21 (lv_at hl 4 rfl) ?_
        refine lv_aload_n hx hb dX11_quiet_23 rfl (lv_at hl 0 rfl) ?_
        refine va_get (D := D) (ci := 11) (v := .ref (a0 0)) (C := RX11) (T := TX11) (N := 38) hx hb hts hinX11 hown hK hP 0 rfl rfl 0 (by decide) (hts (.fieldLink RX11 7 "KneeBenchModel" "at" "[I") (List.mem_of_getElem? (i := 1) rfl)) (fun _ h9 => h9) rfl dX11_quiet_24 ?_
        refine lv_iconst (v := 1) hx hb dX11_quiet_27 (by decide) ?_
        refine va_iald hx hb hK hP 1 1 rfl rfl (inb_in (by decide)) dX11_quiet_28 ?_
        refine lv_icmp_ge (tgt := 62) hx hb dX11_quiet_29 (by decide) (fun c4 => ?_) (fun c4 => ?_)
        · replace h := (if_pos c4).symm.trans h
          have eo := hst _ (Option.some.inj h).symm
          subst eo
          exact kk62 H locs ls (lv_sub hl [0, 2] rfl) hP hD hS
        · replace h := (if_neg c4).symm.trans h
          refine lv_aload_n hx hb dX11_quiet_32 rfl (lv_at hl 0 rfl) ?_
          refine lv_iload_n hx hb dX11_quiet_33 rfl (lv_at hl 1 rfl) ?_
          refine lv_iload hx hb dX11_quiet_34 (lv_at hl 4 rfl) ?_
          obtain ⟨r5, hr5, h⟩ := bd_elim h
          refine ca_z (w' := WX11 cy h0 a0 s0) (rn_V (As := [.int p1, .int q21.2.2]) (rest := []) ⟨hx, hb, hml, hown, hts⟩ (kX11_felt l D cy h0 a0 s0 p1 q21.2.2 r5 hr5 H.size) (cwV 2 hts gX11_quiet_X11_felt rfl rfl rfl (by decide +kernel) ⟨Nat.le_of_ble_eq_true rfl, Nat.le_of_ble_eq_true rfl⟩) hK hN hP hD [0, 1, 2, 3, 4, 5, 6, 7, 8, 9, 10, 11, 12, 13] rfl rfl (ci := 11) (q0 := 0) rfl rfl rfl rfl hl.1 rfl (Nat.le_of_ble_eq_true rfl) dX11_quiet_36 ⟨Nat.le_refl 0, Nat.le_refl 0⟩) hP hD hS hA [0, 1, 2, 3, 4, 5, 6, 7, 8, 9, 10, 11, 12, 13] ⟨rfl, rfl, rfl, rfl⟩ (fun b6 H locs hP hD hS => ?_)
          refine lv_if_eq (tgt := 46) hx hb dX11_quiet_39 (by decide) (fun c7 => ?_) (fun c7 => ?_)
          · replace h := (if_pos c7).symm.trans h
            refine lv_iload_n hx hb dX11_quiet_46 rfl (lv_at hl 3 rfl) ?_
            refine lv_iconst (v := 1) hx hb dX11_quiet_47 (by decide) ?_
            refine lv_iadd hx hb dX11_quiet_48 ?_
            exact J49 (q21.2.1 + (1 : Int32)) H locs ls (lv_sub hl [0, 1, 2, 4] rfl) hP hD hS h
          · replace h := (if_neg c7).symm.trans h
            refine lv_iconst (v := 0) hx hb dX11_quiet_42 (by decide) ?_
            refine lv_goto (tgt := 49) hx hb dX11_quiet_43 (by decide) ?_
            exact J49 (0 : Int32) H locs ls (lv_sub hl [0, 1, 2, 4] rfl) hP hD hS h
    obtain ⟨o21, ho21, h⟩ := bd_elim h
    obtain ⟨n21, hn21⟩ := loopF_some ho21
    refine L21 n21 _ o21 hn21 H locs ls (lv_sub hl [3, 4, 2, 1, 0] rfl) hP hD hS (fun H locs ls hl hP hD hS => ?_)
    refine lv_aload_n hx hb dX11_quiet_62 rfl (lv_at hl 0 rfl) ?_
    refine lv_iload_n hx hb dX11_quiet_63 rfl (lv_at hl 1 rfl) ?_
    obtain ⟨r8, hr8, h⟩ := lt_elim h
    refine ca_i (w' := WX11 cy h0 a0 r8.2) (rn_V (As := [.int o21]) (rest := []) ⟨hx, hb, hml, hown, hts⟩ (kX11_gives l D cy h0 a0 s0 o21 r8 hr8.symm H.size) (cwV 1 hts gX11_quiet_X11_gives rfl rfl rfl (by decide +kernel) ⟨Nat.le_of_ble_eq_true rfl, Nat.le_of_ble_eq_true rfl⟩) hK hN hP hD [0, 1, 2, 3, 4, 5, 6, 7, 8, 9, 10, 11, 12, 13] rfl rfl (ci := 11) (q0 := 0) rfl rfl rfl rfl hl.1 rfl (Nat.le_of_ble_eq_true rfl) dX11_quiet_64 ⟨Nat.le_refl 0, Nat.le_refl 0⟩) hP hD hS hA [0, 1, 2, 3, 4, 5, 6, 7, 8, 9, 10, 11, 12, 13] ⟨rfl, rfl, rfl, rfl⟩ (fun H locs hP hD hS => ?_)
    exact hret 67 H locs ls (r8.1, r8.2) (Option.some.inj h) hP hD hS dX11_quiet_67
  · replace h := (if_pos c2).symm.trans h
    refine lv_aload_n hx hb dX11_quiet_8 rfl (lv_at hl 0 rfl) ?_
    refine lv_iconst (v := 1) hx hb dX11_quiet_9 (by decide) ?_
    obtain ⟨r9, hr9, h⟩ := lt_elim h
    refine ca_i (w' := WX11 cy h0 a0 r9.2) (rn_V (As := [.int (1 : Int32)]) (rest := []) ⟨hx, hb, hml, hown, hts⟩ (kX11_refuse l D cy h0 a0 s0 (1 : Int32) r9 hr9.symm H.size) (cwV 1 hts gX11_quiet_X11_refuse rfl rfl rfl (by decide +kernel) ⟨Nat.le_of_ble_eq_true rfl, Nat.le_of_ble_eq_true rfl⟩) hK hN hP hD [0, 1, 2, 3, 4, 5, 6, 7, 8, 9, 10, 11, 12, 13] rfl rfl (ci := 11) (q0 := 0) rfl rfl rfl rfl hl.1 rfl (Nat.le_of_ble_eq_true rfl) dX11_quiet_10 ⟨Nat.le_refl 0, Nat.le_refl 0⟩) hP hD hS hA [0, 1, 2, 3, 4, 5, 6, 7, 8, 9, 10, 11, 12, 13] ⟨rfl, rfl, rfl, rfl⟩ (fun H locs hP hD hS => ?_)
    exact hret 13 H locs ls (r9.1, r9.2) (Option.some.inj h) hP hD hS dX11_quiet_13
