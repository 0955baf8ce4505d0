set_option maxRecDepth 20000 in
theorem ggX11_toldOf_X11_tellOf : GoodIn wsX11_toldOf wsX11_tellOf := goodIn_r _ [6, 7, 1, 8, 9, 10, 11, 5, 12, 13, 14, 15, 16, 17, 18, 19, 20, 21, 22, 23, 24, 25, 26, 27, 28, 29, 30, 31, 32, 33, 34, 35, 36, 37, 38, 39, 40, 41, 42, 43, 44, 45, 46, 47, 48, 49, 50, 51, 52, 53, 54, 55, 56, 57, 58, 59, 60, 61, 62, 63, 64] (by decide +kernel) (by decide +kernel)
set_option maxRecDepth 20000 in
theorem gX11_toldOf_X11_tellOf : GoodIn wsX11_toldOf (wsV RX11 307 RX11 yX11_tellOf wsX11_tellOf) := goodIn_app (goodIn_of _ (by decide +kernel)) ggX11_toldOf_X11_tellOf
theorem dX11_toldOf_0 : decode cX11_toldOf 0 = .ok (.iconst 0, 1) := by decide +kernel
theorem dX11_toldOf_1 : decode cX11_toldOf 1 = .ok (.istore_n 2, 1) := by decide +kernel
theorem dX11_toldOf_2 : decode cX11_toldOf 2 = .ok (.iconst 0, 1) := by decide +kernel
theorem dX11_toldOf_3 : decode cX11_toldOf 3 = .ok (.istore_n 3, 1) := by decide +kernel
theorem dX11_toldOf_4 : decode cX11_toldOf 4 = .ok (.iload_n 3, 1) := by decide +kernel
theorem dX11_toldOf_5 : decode cX11_toldOf 5 = .ok (.aload_n 0, 1) := by decide +kernel
theorem dX11_toldOf_6 : decode cX11_toldOf 6 = .ok (.getfield 7, 3) := by decide +kernel
theorem dX11_toldOf_9 : decode cX11_toldOf 9 = .ok (.iconst 1, 1) := by decide +kernel
theorem dX11_toldOf_10 : decode cX11_toldOf 10 = .ok (.iaload, 1) := by decide +kernel
theorem dX11_toldOf_11 : decode cX11_toldOf 11 = .ok (.if_icmp .ge 27, 3) := by decide +kernel
theorem dX11_toldOf_14 : decode cX11_toldOf 14 = .ok (.iload_n 2, 1) := by decide +kernel
theorem dX11_toldOf_15 : decode cX11_toldOf 15 = .ok (.aload_n 0, 1) := by decide +kernel
theorem dX11_toldOf_16 : decode cX11_toldOf 16 = .ok (.iload_n 1, 1) := by decide +kernel
theorem dX11_toldOf_17 : decode cX11_toldOf 17 = .ok (.iload_n 3, 1) := by decide +kernel
theorem dX11_toldOf_18 : decode cX11_toldOf 18 = .ok (.invokevirtual 307, 3) := by decide +kernel
theorem dX11_toldOf_21 : decode cX11_toldOf 21 = .ok (.iconst (-1), 1) := by decide +kernel
theorem dX11_toldOf_22 : decode cX11_toldOf 22 = .ok (.if_icmp .eq 7, 3) := by decide +kernel
theorem dX11_toldOf_25 : decode cX11_toldOf 25 = .ok (.iconst 1, 1) := by decide +kernel
theorem dX11_toldOf_26 : decode cX11_toldOf 26 = .ok (.goto 4, 3) := by decide +kernel
theorem dX11_toldOf_29 : decode cX11_toldOf 29 = .ok (.iconst 0, 1) := by decide +kernel
theorem dX11_toldOf_30 : decode cX11_toldOf 30 = .ok (.iadd, 1) := by decide +kernel
theorem dX11_toldOf_31 : decode cX11_toldOf 31 = .ok (.istore_n 2, 1) := by decide +kernel
theorem dX11_toldOf_32 : decode cX11_toldOf 32 = .ok (.iinc 3 1, 3) := by decide +kernel
theorem dX11_toldOf_35 : decode cX11_toldOf 35 = .ok (.goto (-31), 3) := by decide +kernel
theorem dX11_toldOf_38 : decode cX11_toldOf 38 = .ok (.iload_n 2, 1) := by decide +kernel
theorem dX11_toldOf_39 : decode cX11_toldOf 39 = .ok (.ireturn, 1) := by decide +kernel
noncomputable def fX11_toldOf_L4 (p1 : Int32) (s0 : Rc) (q4 : Int32 × Int32) : Option ((Int32 × Int32) ⊕ Int32) :=
if (ga s0 0 (1 : Int32).toNatClampNeg) ≤ q4.2 then (
some (.inr q4.1)) else (
(fX11_tellOf p1 q4.2 s0).bind (fun r2 =>
if r2 = (-1 : Int32) then (
lt_ (q4.1 + (0 : Int32)) (fun x4 =>
some (.inl (x4, (q4.2 + (1 : Int32)))))) else (
lt_ (q4.1 + (1 : Int32)) (fun x5 =>
some (.inl (x5, (q4.2 + (1 : Int32))))))))
noncomputable def fX11_toldOf (p1 : Int32) (s0 : Rc) : Option (Int32) :=
(loopF (fX11_toldOf_L4 p1 s0) ((0 : Int32), (0 : Int32))).bind (fun o4 =>
some o4)
abbrev rmX11_toldOf : Room := { frames := 3, cells := 0, slots := 0, locals := 66 }
set_option maxHeartbeats 4000000 in
set_option maxRecDepth 100000 in
theorem kX11_toldOf (l : Launch) (D : va_G) (cy : Nat → ClassId) (h0 : Nat) (a0 : Nat → Nat) (s0 : Rc) (p1 : Int32) (res : Int32) (h : fX11_toldOf p1 s0 = some res) : CI l D cy yX11_toldOf wsX11_toldOf rmX11_toldOf [.ref h0, .int p1] (WX11 cy h0 a0 s0) (WX11 cy h0 a0 s0) res := by
  refine CI.of (cc := cX11_toldOf) (maxL := 4) (by decide) rfl (Nat.le_of_ble_eq_true rfl) ?_
  intro p e s m args below meth c A QQ ls E hr
  obtain ⟨hx, hb, hml, hown, hts, hK, hN, hP, hD, hA, hl⟩ := E
  have hret : ∀ (pc : Nat) (H : Heap) (locs : List Loc) (ls : Array Slot) (u : Int32), u = res → va_P D vwCl (WX11 cy h0 a0 s0) H → va_D A (WX11 cy h0 a0 s0) → va_S A s.heap H locs → decode cX11_toldOf pc = .ok (.ireturn, 1) → W p l e rmX11_toldOf s m args below meth c H locs 0 0 QQ (F0 m pc ls [.int u]) := by
    intro pc H locs ls u hu hP hD hS hd; subst hu; exact hr pc H locs ls _ rfl hP hD hS hd
  clear hr
  have hl : lv_has ls 4 [(0, .ref h0), (1, .int p1)] := hl
  have hinX11 : ∀ w ∈ wsX110, w ∈ wsX11_toldOf := fun _ h => List.mem_cons_of_mem _ (List.mem_append_right _ h)
  unfold fX11_toldOf at h
  suffices key : ∀ (H : Heap) (locs : List Loc), va_P D vwCl (WX11 cy h0 a0 s0) H → va_S A s.heap H locs → W p l e rmX11_toldOf s m args below meth c H locs 0 0 QQ (F0 m 0 ls []) from key _ _ hP va_S.rf
  clear hP
  intro H locs hP hS
  refine lv_iconst (v := 0) hx hb dX11_toldOf_0 (by decide) ?_
  refine lv_istore_n (lv' := [(2, .int (0 : Int32)), (0, .ref h0), (1, .int p1)]) hx hb dX11_toldOf_1 rfl hl (by decide) rfl (fun ls hl => ?_)
  refine lv_iconst (v := 0) hx hb dX11_toldOf_2 (by decide) ?_
  refine lv_istore_n (lv' := [(3, .int (0 : Int32)), (2, .int (0 : Int32)), (0, .ref h0), (1, .int p1)]) hx hb dX11_toldOf_3 rfl hl (by decide) rfl (fun ls hl => ?_)
  have L4 : ∀ (n : Nat) (q4 : Int32 × Int32) (o : Int32), loopO (fX11_toldOf_L4 p1 s0) n q4 = some o → ∀ (H : Heap) (locs : List Loc) (ls : Array Slot), lv_has ls 4 [(0, .ref h0), (1, .int p1), (2, .int q4.1), (3, .int q4.2)] → va_P D vwCl (WX11 cy h0 a0 s0) H → va_D A (WX11 cy h0 a0 s0) → va_S A s.heap H locs → ∀ (kk38 : ∀ (H : Heap) (locs : List Loc) (ls : Array Slot), lv_has ls 4 [(2, .int o)] → va_P D vwCl (WX11 cy h0 a0 s0) H → va_D A (WX11 cy h0 a0 s0) → va_S A s.heap H locs → W p l e rmX11_toldOf s m args below meth c H locs 0 0 QQ (F0 m 38 ls [])), W p l e rmX11_toldOf s m args below meth c H locs 0 0 QQ (F0 m 4 ls []) := by
    intro n
    induction n with
    | zero => intro q4 o h; exact absurd h (by rw [loopO_zero]; intro z; cases z)
    | succ n ih =>
      intro q4 o h H locs ls hl hP hD hS kk38
      obtain ⟨w, h, hgo, hst⟩ := loopO_elim h
      unfold fX11_toldOf_L4 at h
      refine lv_iload_n hx hb dX11_toldOf_4 rfl (lv_at hl 3 rfl) ?_
      refine lv_aload_n hx hb dX11_toldOf_5 rfl (lv_at hl 0 rfl) ?_
      refine va_get (D := D) (ci := 11) (v := .ref (a0 0)) (C := RX11) (T := TX11) (N := 38) hx hb hts hinX11 hown hK hP 0 rfl rfl 0 (by decide) (hts (.fieldLink RX11 7 "KneeBenchModel" "at" "[I") (List.mem_of_getElem? (i := 1) rfl)) (fun _ h9 => h9) rfl dX11_toldOf_6 ?_
      refine lv_iconst (v := 1) hx hb dX11_toldOf_9 (by decide) ?_
      refine va_iald hx hb hK hP 1 1 rfl rfl (inb_in (by decide)) dX11_toldOf_10 ?_
      refine lv_icmp_ge (tgt := 38) hx hb dX11_toldOf_11 (by decide) (fun c1 => ?_) (fun c1 => ?_)
      · replace h := (if_pos c1).symm.trans h
        have eo := hst _ (Option.some.inj h).symm
        subst eo
        exact kk38 H locs ls (lv_sub hl [2] rfl) hP hD hS
      · replace h := (if_neg c1).symm.trans h
        refine lv_iload_n hx hb dX11_toldOf_14 rfl (lv_at hl 2 rfl) ?_
        refine lv_aload_n hx hb dX11_toldOf_15 rfl (lv_at hl 0 rfl) ?_
        refine lv_iload_n hx hb dX11_toldOf_16 rfl (lv_at hl 1 rfl) ?_
        refine lv_iload_n hx hb dX11_toldOf_17 rfl (lv_at hl 3 rfl) ?_
        obtain ⟨r2, hr2, h⟩ := bd_elim h
        refine ca_i (w' := WX11 cy h0 a0 s0) (rn_V (As := [.int p1, .int q4.2]) (rest := [.int q4.1]) ⟨hx, hb, hml, hown, hts⟩ (kX11_tellOf l D cy h0 a0 s0 p1 q4.2 r2 hr2 H.size) (cwV 2 hts gX11_toldOf_X11_tellOf rfl rfl rfl (by decide +kernel) ⟨Nat.le_of_ble_eq_true rfl, Nat.le_of_ble_eq_true rfl⟩) hK hN hP hD [0, 1, 2, 3, 4, 5, 6, 7, 8, 9, 10, 11, 12, 13] rfl rfl (ci := 11) (q0 := 0) rfl rfl rfl rfl hl.1 rfl (Nat.le_of_ble_eq_true rfl) dX11_toldOf_18 ⟨Nat.le_refl 0, Nat.le_refl 0⟩) hP hD hS hA [0, 1, 2, 3, 4, 5, 6, 7, 8, 9, 10, 11, 12, 13] ⟨rfl, rfl, rfl, rfl⟩ (fun H locs hP hD hS => ?_)
        refine lv_iconst (v := -1) hx hb dX11_toldOf_21 (by decide) ?_
        refine lv_icmp_eq (tgt := 29) hx hb dX11_toldOf_22 (by decide) (fun c3 => ?_) (fun c3 => ?_)
        · replace h := (if_pos c3).symm.trans h
          refine lv_iconst (v := 0) hx hb dX11_toldOf_29 (by decide) ?_
          refine lv_iadd hx hb dX11_toldOf_30 ?_
          refine lv_topi (fun x4 ex4 => ?_)
          replace h := lt_use h x4 ex4
          refine lv_istore_n (lv' := [(2, .int x4), (0, .ref h0), (1, .int p1), (3, .int q4.2)]) hx hb dX11_toldOf_31 rfl hl (by decide) rfl (fun ls hl => ?_)
          refine lv_iinc (v := (q4.2 + (1 : Int32))) (lv' := [(3, .int (q4.2 + (1 : Int32))), (2, .int x4), (0, .ref h0), (1, .int p1)]) hx hb dX11_toldOf_32 hl (k := 3) rfl rfl (by decide) rfl (fun ls hl => ?_)
          refine lv_goto (tgt := 4) hx hb dX11_toldOf_35 (by decide) ?_
          exact ih _ o (hgo _ (Option.some.inj h).symm) H locs ls (lv_sub hl [2, 3, 1, 0] rfl) hP hD hS kk38
        · replace h := (if_neg c3).symm.trans h
          refine lv_iconst (v := 1) hx hb dX11_toldOf_25 (by decide) ?_
          refine lv_goto (tgt := 30) hx hb dX11_toldOf_26 (by decide) ?_
          refine lv_iadd hx hb dX11_toldOf_30 ?_
          refine lv_topi (fun x5 ex5 => ?_)
          replace h := lt_use h x5 ex5
          refine lv_istore_n (lv' := [(2, .int x5), (0, .ref h0), (1, .int p1), (3, .int q4.2)]) hx hb dX11_toldOf_31 rfl hl (by decide) rfl (fun ls hl => ?_)
          refine lv_iinc (v := (q4.2 + (1 : Int32))) (lv' := [(3, .int (q4.2 + (1 : Int32))), (2, .int x5), (0, .ref h0), (1, .int p1)]) hx hb dX11_toldOf_32 hl (k := 3) rfl rfl (by decide) rfl (fun ls hl => ?_)
          refine lv_goto (tgt := 4) hx hb dX11_toldOf_35 (by decide) ?_
          exact ih _ o (hgo _ (Option.some.inj h).symm) H locs ls (lv_sub hl [2, 3, 1, 0] rfl) hP hD hS kk38
  obtain ⟨o4, ho4, h⟩ := bd_elim h
  obtain ⟨n4, hn4⟩ := loopF_some ho4
  refine L4 n4 _ o4 hn4 H locs ls (lv_sub hl [2, 3, 1, 0] rfl) hP hD hS (fun H locs ls hl hP hD hS => ?_)
  refine lv_iload_n hx hb dX11_toldOf_38 rfl (lv_at hl 0 rfl) ?_
  exact hret 39 H locs ls o4 (Option.some.inj h) hP hD hS dX11_toldOf_39
set_option maxRecDepth 20000 in
theorem ggX11_toldBy_X11_isFarmer : GoodIn wsX11_toldBy wsX11_isFarmer := goodIn_r _ [5, 6, 44, 45, 46, 47, 48, 49, 50, 51, 52, 53, 54, 55, 56, 57, 58, 59, 60, 61, 62, 63, 64, 65, 66, 67, 68, 69, 70, 71, 72, 73, 74, 75, 76, 77, 78, 79, 80, 81] (by decide +kernel) (by decide +kernel)
set_option maxRecDepth 20000 in
theorem gX11_toldBy_X11_isFarmer : GoodIn wsX11_toldBy (wsV RX11 267 RX11 yX11_isFarmer wsX11_isFarmer) := goodIn_app (goodIn_of _ (by decide +kernel)) ggX11_toldBy_X11_isFarmer
set_option maxRecDepth 20000 in
theorem ggX11_toldBy_X11_toldOf : GoodIn wsX11_toldBy wsX11_toldOf := goodIn_r _ [10, 6, 11, 12, 13, 4, 14, 15, 16, 17, 18, 19, 20, 21, 22, 23, 24, 25, 26, 27, 28, 29, 30, 31, 32, 33, 34, 44, 45, 46, 47, 48, 49, 50, 51, 52, 53, 54, 55, 56, 57, 58, 59, 60, 61, 62, 63, 64, 65, 66, 67, 68, 69, 70, 71, 72, 73, 74, 75, 76, 77, 78, 79, 80, 81] (by decide +kernel) (by decide +kernel)
set_option maxRecDepth 20000 in
theorem gX11_toldBy_X11_toldOf : GoodIn wsX11_toldBy (wsV RX11 331 RX11 yX11_toldOf wsX11_toldOf) := goodIn_app (goodIn_of _ (by decide +kernel)) ggX11_toldBy_X11_toldOf
set_option maxRecDepth 20000 in
theorem ggX11_toldBy_X11_gives : GoodIn wsX11_toldBy wsX11_gives := goodIn_r _ [38, 39, 44, 45, 46, 47, 48, 49, 50, 51, 52, 53, 54, 55, 56, 57, 58, 59, 60, 61, 62, 63, 64, 65, 66, 67, 68, 69, 70, 71, 72, 73, 74, 75, 76, 77, 78, 79, 80, 81] (by decide +kernel) (by decide +kernel)
set_option maxRecDepth 20000 in
theorem gX11_toldBy_X11_gives : GoodIn wsX11_toldBy (wsV RX11 79 RX11 yX11_gives wsX11_gives) := goodIn_app (goodIn_of _ (by decide +kernel)) ggX11_toldBy_X11_gives
set_option maxRecDepth 20000 in
theorem ggX11_toldBy_X11_refuse : GoodIn wsX11_toldBy wsX11_refuse := goodIn_r _ [43, 39, 44, 45, 46, 47, 48, 49, 50, 51, 52, 53, 54, 55, 56, 57, 58, 59, 60, 61, 62, 63, 64, 65, 66, 67, 68, 69, 70, 71, 72, 73, 74, 75, 76, 77, 78, 79, 80, 81] (by decide +kernel) (by decide +kernel)
set_option maxRecDepth 20000 in
theorem gX11_toldBy_X11_refuse : GoodIn wsX11_toldBy (wsV RX11 75 RX11 yX11_refuse wsX11_refuse) := goodIn_app (goodIn_of _ (by decide +kernel)) ggX11_toldBy_X11_refuse
theorem dX11_toldBy_0 : decode cX11_toldBy 0 = .ok (.aload_n 0, 1) := by decide +kernel
theorem dX11_toldBy_1 : decode cX11_toldBy 1 = .ok (.iload_n 1, 1) := by decide +kernel
theorem dX11_toldBy_2 : decode cX11_toldBy 2 = .ok (.invokevirtual 267, 3) := by decide +kernel
theorem dX11_toldBy_5 : decode cX11_toldBy 5 = .ok (.ifCond .eq 15, 3) := by decide +kernel
theorem dX11_toldBy_8 : decode cX11_toldBy 8 = .ok (.aload_n 0, 1) := by decide +kernel
theorem dX11_toldBy_9 : decode cX11_toldBy 9 = .ok (.aload_n 0, 1) := by decide +kernel
theorem dX11_toldBy_10 : decode cX11_toldBy 10 = .ok (.iload_n 1, 1) := by decide +kernel
theorem dX11_toldBy_11 : decode cX11_toldBy 11 = .ok (.invokevirtual 331, 3) := by decide +kernel
theorem dX11_toldBy_14 : decode cX11_toldBy 14 = .ok (.invokevirtual 79, 3) := by decide +kernel
theorem dX11_toldBy_17 : decode cX11_toldBy 17 = .ok (.goto 8, 3) := by decide +kernel
theorem dX11_toldBy_20 : decode cX11_toldBy 20 = .ok (.aload_n 0, 1) := by decide +kernel
theorem dX11_toldBy_21 : decode cX11_toldBy 21 = .ok (.iconst 1, 1) := by decide +kernel
theorem dX11_toldBy_22 : decode cX11_toldBy 22 = .ok (.invokevirtual 75, 3) := by decide +kernel
theorem dX11_toldBy_25 : decode cX11_toldBy 25 = .ok (.ireturn, 1) := by decide +kernel
noncomputable def fX11_toldBy (p1 : Int32) (s0 : Rc) : Option (Int32 × Rc) :=
if (fX11_isFarmer p1 s0) = (0 : Int32) then (
lt_ (fX11_refuse (1 : Int32) s0) (fun r3 =>
some (r3.1, r3.2))) else (
(fX11_toldOf p1 s0).bind (fun r4 =>
lt_ (fX11_gives r4 s0) (fun r5 =>
some (r5.1, r5.2))))
abbrev rmX11_toldBy : Room := { frames := 4, cells := 0, slots := 0, locals := 89 }
set_option maxHeartbeats 4000000 in
set_option maxRecDepth 100000 in
theorem kX11_toldBy (l : Launch) (D : va_G) (cy : Nat → ClassId) (h0 : Nat) (a0 : Nat → Nat) (s0 : Rc) (p1 : Int32) (res : Int32 × Rc) (h : fX11_toldBy p1 s0 = some res) : CI l D cy yX11_toldBy wsX11_toldBy rmX11_toldBy [.ref h0, .int p1] (WX11 cy h0 a0 s0) (WX11 cy h0 a0 res.2) res.1 := by
  refine CI.of (cc := cX11_toldBy) (maxL := 2) (by decide) rfl (Nat.le_of_ble_eq_true rfl) ?_
  intro p e s m args below meth c A QQ ls E hr
  obtain ⟨hx, hb, hml, hown, hts, hK, hN, hP, hD, hA, hl⟩ := E
  have hret : ∀ (pc : Nat) (H : Heap) (locs : List Loc) (ls : Array Slot) (u : Int32 × Rc), u = res → va_P D vwCl (WX11 cy h0 a0 u.2) H → va_D A (WX11 cy h0 a0 u.2) → va_S A s.heap H locs → decode cX11_toldBy pc = .ok (.ireturn, 1) → W p l e rmX11_toldBy s m args below meth c H locs 0 0 QQ (F0 m pc ls [.int u.1]) := by
    intro pc H locs ls u hu hP hD hS hd; subst hu; exact hr pc H locs ls _ rfl hP hD hS hd
  clear hr
  have hl : lv_has ls 2 [(0, .ref h0), (1, .int p1)] := hl
  unfold fX11_toldBy at h
  suffices key : ∀ (H : Heap) (locs : List Loc), va_P D vwCl (WX11 cy h0 a0 s0) H → va_S A s.heap H locs → W p l e rmX11_toldBy s m args below meth c H locs 0 0 QQ (F0 m 0 ls []) from key _ _ hP va_S.rf
  clear hP
  intro H locs hP hS
  refine lv_aload_n hx hb dX11_toldBy_0 rfl (lv_at hl 0 rfl) ?_
  refine lv_iload_n hx hb dX11_toldBy_1 rfl (lv_at hl 1 rfl) ?_
  refine ca_z (w' := WX11 cy h0 a0 s0) (rn_V (As := [.int p1]) (rest := []) ⟨hx, hb, hml, hown, hts⟩ (kX11_isFarmer l D cy h0 a0 s0 p1 _ rfl H.size) (cwV 1 hts gX11_toldBy_X11_isFarmer rfl rfl rfl (by decide +kernel) ⟨Nat.le_of_ble_eq_true rfl, Nat.le_of_ble_eq_true rfl⟩) hK hN hP hD [0, 1, 2, 3, 4, 5, 6, 7, 8, 9, 10, 11, 12, 13] rfl rfl (ci := 11) (q0 := 0) rfl rfl rfl rfl hl.1 rfl (Nat.le_of_ble_eq_true rfl) dX11_toldBy_2 ⟨Nat.le_refl 0, Nat.le_refl 0⟩) hP hD hS hA [0, 1, 2, 3, 4, 5, 6, 7, 8, 9, 10, 11, 12, 13] ⟨rfl, rfl, rfl, rfl⟩ (fun b1 H locs hP hD hS => ?_)
  refine lv_if_eq (tgt := 20) hx hb dX11_toldBy_5 (by decide) (fun c2 => ?_) (fun c2 => ?_)
  · replace h := (if_pos c2).symm.trans h
    refine lv_aload_n hx hb dX11_toldBy_20 rfl (lv_at hl 0 rfl) ?_
    refine lv_iconst (v := 1) hx hb dX11_toldBy_21 (by decide) ?_
    obtain ⟨r3, hr3, h⟩ := lt_elim h
    refine ca_i (w' := WX11 cy h0 a0 r3.2) (rn_V (As := [.int (1 : Int32)]) (rest := []) ⟨hx, hb, hml, hown, hts⟩ (kX11_refuse l D cy h0 a0 s0 (1 : Int32) r3 hr3.symm H.size) (cwV 1 hts gX11_toldBy_X11_refuse rfl rfl rfl (by decide +kernel) ⟨Nat.le_of_ble_eq_true rfl, Nat.le_of_ble_eq_true rfl⟩) hK hN hP hD [0, 1, 2, 3, 4, 5, 6, 7, 8, 9, 10, 11, 12, 13] rfl rfl (ci := 11) (q0 := 0) rfl rfl rfl rfl hl.1 rfl (Nat.le_of_ble_eq_true rfl) dX11_toldBy_22 ⟨Nat.le_refl 0, Nat.le_refl 0⟩) hP hD hS hA [0, 1, 2, 3, 4, 5, 6, 7, 8, 9, 10, 11, 12, 13] ⟨rfl, rfl, rfl, rfl⟩ (fun H locs hP hD hS => ?_)
    exact hret 25 H locs ls (r3.1, r3.2) (Option.some.inj h) hP hD hS dX11_toldBy_25
  · replace h := (if_neg c2).symm.trans h
    refine lv_aload_n hx hb dX11_toldBy_8 rfl (lv_at hl 0 rfl) ?_
    refine lv_aload_n hx hb dX11_toldBy_9 rfl (lv_at hl 0 rfl) ?_
    refine lv_iload_n hx hb dX11_toldBy_10 rfl (lv_at hl 1 rfl) ?_
    obtain ⟨r4, hr4, h⟩ := bd_elim h
    refine ca_i (w' := WX11 cy h0 a0 s0) (rn_V (As := [.int p1]) (rest := [.ref h0]) ⟨hx, hb, hml, hown, hts⟩ (kX11_toldOf l D cy h0 a0 s0 p1 r4 hr4 H.size) (cwV 1 hts gX11_toldBy_X11_toldOf rfl rfl rfl (by decide +kernel) ⟨Nat.le_of_ble_eq_true rfl, Nat.le_of_ble_eq_true rfl⟩) hK hN hP hD [0, 1, 2, 3, 4, 5, 6, 7, 8, 9, 10, 11, 12, 13] rfl rfl (ci := 11) (q0 := 0) rfl rfl rfl rfl hl.1 rfl (Nat.le_of_ble_eq_true rfl) dX11_toldBy_11 ⟨Nat.le_refl 0, Nat.le_refl 0⟩) hP hD hS hA [0, 1, 2, 3, 4, 5, 6, 7, 8, 9, 10, 11, 12, 13] ⟨rfl, rfl, rfl, rfl⟩ (fun H locs hP hD hS => ?_)
    obtain ⟨r5, hr5, h⟩ := lt_elim h
    refine ca_i (w' := WX11 cy h0 a0 r5.2) (rn_V (As := [.int r4]) (rest := []) ⟨hx, hb, hml, hown, hts⟩ (kX11_gives l D cy h0 a0 s0 r4 r5 hr5.symm H.size) (cwV 1 hts gX11_toldBy_X11_gives rfl rfl rfl (by decide +kernel) ⟨Nat.le_of_ble_eq_true rfl, Nat.le_of_ble_eq_true rfl⟩) hK hN hP hD [0, 1, 2, 3, 4, 5, 6, 7, 8, 9, 10, 11, 12, 13] rfl rfl (ci := 11) (q0 := 0) rfl rfl rfl rfl hl.1 rfl (Nat.le_of_ble_eq_true rfl) dX11_toldBy_14 ⟨Nat.le_refl 0, Nat.le_refl 0⟩) hP hD hS hA [0, 1, 2, 3, 4, 5, 6, 7, 8, 9, 10, 11, 12, 13] ⟨rfl, rfl, rfl, rfl⟩ (fun H locs hP hD hS => ?_)
    refine lv_goto (tgt := 25) hx hb dX11_toldBy_17 (by decide) ?_
    exact hret 25 H locs ls (r5.1, r5.2) (Option.some.inj h) hP hD hS dX11_toldBy_25
theorem dX11_top_0 : decode cX11_top 0 = .ok (.aload_n 0, 1) := by decide +kernel
theorem dX11_top_1 : decode cX11_top 1 = .ok (.getfield 72, 3) := by decide +kernel
theorem dX11_top_4 : decode cX11_top 4 = .ok (.lreturn, 1) := by decide +kernel
noncomputable def fX11_top (s0 : Rc) : Int64 :=
(gl s0 3)
abbrev rmX11_top : Room := { frames := 0, cells := 0, slots := 0, locals := 0 }
set_option maxHeartbeats 4000000 in
set_option maxRecDepth 100000 in
theorem kX11_top (l : Launch) (D : va_G) (cy : Nat → ClassId) (h0 : Nat) (a0 : Nat → Nat) (s0 : Rc) (res : Int64) (h : fX11_top s0 = res) : CL l D cy yX11_top wsX11_top rmX11_top [.ref h0] (WX11 cy h0 a0 s0) (WX11 cy h0 a0 s0) res := by
  refine CL.of (cc := cX11_top) (maxL := 1) (by decide) rfl (Nat.le_of_ble_eq_true rfl) ?_
  intro p e s m args below meth c A QQ ls E hr
  obtain ⟨hx, hb, hml, hown, hts, hK, hN, hP, hD, hA, hl⟩ := E
  have hret : ∀ (pc : Nat) (H : Heap) (locs : List Loc) (ls : Array Slot) (u : Int64), u = res → va_P D vwCl (WX11 cy h0 a0 s0) H → va_D A (WX11 cy h0 a0 s0) → va_S A s.heap H locs → decode cX11_top pc = .ok (.lreturn, 1) → W p l e rmX11_top s m args below meth c H locs 0 0 QQ (F0 m pc ls [.long u]) := by
    intro pc H locs ls u hu hP hD hS hd; subst hu; exact hr pc H locs ls _ rfl hP hD hS hd
  clear hr
  have hl : lv_has ls 1 [(0, .ref h0)] := hl
  have hinX11 : ∀ w ∈ wsX110, w ∈ wsX11_top := fun _ h => List.mem_cons_of_mem _ (List.mem_append_right _ h)
  unfold fX11_top at h
  suffices key : ∀ (H : Heap) (locs : List Loc), va_P D vwCl (WX11 cy h0 a0 s0) H → va_S A s.heap H locs → W p l e rmX11_top s m args below meth c H locs 0 0 QQ (F0 m 0 ls []) from key _ _ hP va_S.rf
  clear hP
  intro H locs hP hS
  refine lv_aload_n hx hb dX11_top_0 rfl (lv_at hl 0 rfl) ?_
  refine va_get (D := D) (ci := 11) (v := .long (gl s0 3)) (C := RX11) (T := TX11) (N := 38) hx hb hts hinX11 hown hK hP 0 rfl rfl 3 (by decide) (hts (.fieldLink RX11 72 "KneeBenchModel" "top" "J") (List.mem_of_getElem? (i := 1) rfl)) (fun _ h9 => h9) rfl dX11_top_1 ?_
  exact hret 4 H locs ls (gl s0 3) h hP hD hS dX11_top_4
set_option maxRecDepth 20000 in
theorem ggX11_tray_X11_isTray : GoodIn wsX11_tray wsX11_isTray := goodIn_r _ [7] (by decide +kernel) (by decide +kernel)
set_option maxRecDepth 20000 in
theorem gX11_tray_X11_isTray : GoodIn wsX11_tray (va_wsS RX11 86 yX11_isTray wsX11_isTray) := goodIn_app (goodIn_of _ (by decide +kernel)) ggX11_tray_X11_isTray
set_option maxRecDepth 20000 in
theorem ggX11_tray_X11_is : GoodIn wsX11_tray wsX11_is := goodIn_r _ [11, 12, 13, 14, 15, 16, 17, 18, 19, 20, 21, 22, 23, 24, 25, 26, 27, 28, 29, 30, 31, 32, 33, 34, 35, 36, 37, 38, 39, 40, 41, 42, 43, 44, 45, 46, 47, 48, 49, 50] (by decide +kernel) (by decide +kernel)
set_option maxRecDepth 20000 in
theorem gX11_tray_X11_is : GoodIn wsX11_tray (wsV RX11 82 RX11 yX11_is wsX11_is) := goodIn_app (goodIn_of _ (by decide +kernel)) ggX11_tray_X11_is
theorem dX11_tray_0 : decode cX11_tray 0 = .ok (.iload_n 1, 1) := by decide +kernel
theorem dX11_tray_1 : decode cX11_tray 1 = .ok (.invokestatic 86, 3) := by decide +kernel
theorem dX11_tray_4 : decode cX11_tray 4 = .ok (.ifCond .eq 22, 3) := by decide +kernel
theorem dX11_tray_7 : decode cX11_tray 7 = .ok (.iload_n 2, 1) := by decide +kernel
theorem dX11_tray_8 : decode cX11_tray 8 = .ok (.ifCond .lt 18, 3) := by decide +kernel
theorem dX11_tray_11 : decode cX11_tray 11 = .ok (.iload_n 2, 1) := by decide +kernel
theorem dX11_tray_12 : decode cX11_tray 12 = .ok (.iconst 3, 1) := by decide +kernel
theorem dX11_tray_13 : decode cX11_tray 13 = .ok (.if_icmp .gt 13, 3) := by decide +kernel
theorem dX11_tray_16 : decode cX11_tray 16 = .ok (.iload_n 3, 1) := by decide +kernel
theorem dX11_tray_17 : decode cX11_tray 17 = .ok (.ifCond .lt 9, 3) := by decide +kernel
theorem dX11_tray_20 : decode cX11_tray 20 = .ok (.iload_n 3, 1) := by decide +kernel
theorem dX11_tray_21 : decode cX11_tray 21 = .ok (.bipush 60, 2) := by decide +kernel
theorem dX11_tray_23 : decode cX11_tray 23 = .ok (.if_icmp .le 9, 3) := by decide +kernel
theorem dX11_tray_26 : decode cX11_tray 26 = .ok (.aload_n 0, 1) := by decide +kernel
theorem dX11_tray_27 : decode cX11_tray 27 = .ok (.iconst 1, 1) := by decide +kernel
theorem dX11_tray_28 : decode cX11_tray 28 = .ok (.invokevirtual 82, 3) := by decide +kernel
theorem dX11_tray_31 : decode cX11_tray 31 = .ok (.ireturn, 1) := by decide +kernel
theorem dX11_tray_32 : decode cX11_tray 32 = .ok (.aload_n 0, 1) := by decide +kernel
theorem dX11_tray_33 : decode cX11_tray 33 = .ok (.getfield 21, 3) := by decide +kernel
theorem dX11_tray_36 : decode cX11_tray 36 = .ok (.iload_n 1, 1) := by decide +kernel
theorem dX11_tray_37 : decode cX11_tray 37 = .ok (.iload_n 2, 1) := by decide +kernel
theorem dX11_tray_38 : decode cX11_tray 38 = .ok (.iastore, 1) := by decide +kernel
theorem dX11_tray_39 : decode cX11_tray 39 = .ok (.aload_n 0, 1) := by decide +kernel
theorem dX11_tray_40 : decode cX11_tray 40 = .ok (.getfield 24, 3) := by decide +kernel
theorem dX11_tray_43 : decode cX11_tray 43 = .ok (.iload_n 1, 1) := by decide +kernel
theorem dX11_tray_44 : decode cX11_tray 44 = .ok (.iload_n 3, 1) := by decide +kernel
theorem dX11_tray_45 : decode cX11_tray 45 = .ok (.iastore, 1) := by decide +kernel
theorem dX11_tray_46 : decode cX11_tray 46 = .ok (.iconst 0, 1) := by decide +kernel
theorem dX11_tray_47 : decode cX11_tray 47 = .ok (.istore 4, 2) := by decide +kernel
theorem dX11_tray_49 : decode cX11_tray 49 = .ok (.iload 4, 2) := by decide +kernel
theorem dX11_tray_51 : decode cX11_tray 51 = .ok (.iload_n 3, 1) := by decide +kernel
theorem dX11_tray_52 : decode cX11_tray 52 = .ok (.if_icmp .ge 22, 3) := by decide +kernel
theorem dX11_tray_55 : decode cX11_tray 55 = .ok (.aload_n 0, 1) := by decide +kernel
theorem dX11_tray_56 : decode cX11_tray 56 = .ok (.getfield 27, 3) := by decide +kernel
theorem dX11_tray_59 : decode cX11_tray 59 = .ok (.bipush 60, 2) := by decide +kernel
theorem dX11_tray_61 : decode cX11_tray 61 = .ok (.iload_n 1, 1) := by decide +kernel
theorem dX11_tray_62 : decode cX11_tray 62 = .ok (.imul, 1) := by decide +kernel
theorem dX11_tray_63 : decode cX11_tray 63 = .ok (.iload 4, 2) := by decide +kernel
theorem dX11_tray_65 : decode cX11_tray 65 = .ok (.iadd, 1) := by decide +kernel
theorem dX11_tray_66 : decode cX11_tray 66 = .ok (.lconst 0, 1) := by decide +kernel
theorem dX11_tray_67 : decode cX11_tray 67 = .ok (.lastore, 1) := by decide +kernel
theorem dX11_tray_68 : decode cX11_tray 68 = .ok (.iinc 4 1, 3) := by decide +kernel
theorem dX11_tray_71 : decode cX11_tray 71 = .ok (.goto (-22), 3) := by decide +kernel
theorem dX11_tray_74 : decode cX11_tray 74 = .ok (.aload_n 0, 1) := by decide +kernel
theorem dX11_tray_75 : decode cX11_tray 75 = .ok (.iconst 0, 1) := by decide +kernel
theorem dX11_tray_76 : decode cX11_tray 76 = .ok (.invokevirtual 82, 3) := by decide +kernel
theorem dX11_tray_79 : decode cX11_tray 79 = .ok (.ireturn, 1) := by decide +kernel
noncomputable def fX11_tray_L49 (p1 : Int32) (p3 : Int32) (q49 : Int32 × Rc) : Option ((Int32 × Rc) ⊕ Rc) :=
if p3 ≤ q49.1 then (
some (.inr q49.2)) else (
gd (inb (((60 : Int32) * p1) + q49.1) 240) (
lt_ (sb q49.2 7 (vp_updL (gb q49.2 7) (((60 : Int32) * p1) + q49.1).toNatClampNeg (0 : Int64))) (fun s0_20 =>
some (.inl ((q49.1 + (1 : Int32)), s0_20)))))
noncomputable def fX11_tray (p1 : Int32) (p2 : Int32) (p3 : Int32) (s0 : Rc) : Option (Int32 × Rc) :=
if (fX11_isTray p1) = (0 : Int32) then (
lt_ (fX11_is (1 : Int32) s0) (fun r3 =>
some (r3.1, r3.2))) else (
if p2 < (0 : Int32) then (
lt_ (fX11_is (1 : Int32) s0) (fun r6 =>
some (r6.1, r6.2))) else (
if (3 : Int32) < p2 then (
lt_ (fX11_is (1 : Int32) s0) (fun r9 =>
some (r9.1, r9.2))) else (
if p3 < (0 : Int32) then (
lt_ (fX11_is (1 : Int32) s0) (fun r12 =>
some (r12.1, r12.2))) else (
if p3 ≤ (60 : Int32) then (
gd (inb p1 4) (
lt_ (sa s0 5 (upd (ga s0 5) p1.toNatClampNeg p2)) (fun s0_16 =>
lt_ (sa s0_16 6 (upd (ga s0_16 6) p1.toNatClampNeg p3)) (fun s0_17 =>
(loopF (fX11_tray_L49 p1 p3) ((0 : Int32), s0_17)).bind (fun o49 =>
lt_ (fX11_is (0 : Int32) o49) (fun r21 =>
some (r21.1, r21.2))))))) else (
lt_ (fX11_is (1 : Int32) s0) (fun r23 =>
some (r23.1, r23.2)))))))
abbrev rmX11_tray : Room := { frames := 1, cells := 0, slots := 0, locals := 21 }
set_option maxHeartbeats 4000000 in
set_option maxRecDepth 100000 in
theorem kX11_tray (l : Launch) (D : va_G) (cy : Nat → ClassId) (h0 : Nat) (a0 : Nat → Nat) (s0 : Rc) (p1 : Int32) (p2 : Int32) (p3 : Int32) (res : Int32 × Rc) (h : fX11_tray p1 p2 p3 s0 = some res) : CZ l D cy yX11_tray wsX11_tray rmX11_tray [.ref h0, .int p1, .int p2, .int p3] (WX11 cy h0 a0 s0) (WX11 cy h0 a0 res.2) res.1 := by
  refine CZ.of (cc := cX11_tray) (maxL := 5) (by decide) rfl (Nat.le_of_ble_eq_true rfl) ?_
  intro p e s m args below meth c A QQ ls E hr
  obtain ⟨hx, hb, hml, hown, hts, hK, hN, hP, hD, hA, hl⟩ := E
  have hret : ∀ (pc : Nat) (H : Heap) (locs : List Loc) (ls : Array Slot) (u : Int32 × Rc), u = res → va_P D vwCl (WX11 cy h0 a0 u.2) H → va_D A (WX11 cy h0 a0 u.2) → va_S A s.heap H locs → isb u.1 = true → decode cX11_tray pc = .ok (.ireturn, 1) → W p l e rmX11_tray s m args below meth c H locs 0 0 QQ (F0 m pc ls [.int u.1]) := by
    intro pc H locs ls u hu hP hD hS hz hd; subst hu; exact hr pc H locs ls _ rfl hP hD hS hz hd
  clear hr
  have hl : lv_has ls 5 [(0, .ref h0), (1, .int p1), (2, .int p2), (3, .int p3)] := hl
  have hinX11 : ∀ w ∈ wsX110, w ∈ wsX11_tray := fun _ h => List.mem_cons_of_mem _ (List.mem_append_right _ h)
  unfold fX11_tray at h
  suffices key : ∀ (H : Heap) (locs : List Loc), va_P D vwCl (WX11 cy h0 a0 s0) H → va_S A s.heap H locs → W p l e rmX11_tray s m args below meth c H locs 0 0 QQ (F0 m 0 ls []) from key _ _ hP va_S.rf
  clear hP
  intro H locs hP hS
  refine lv_iload_n hx hb dX11_tray_0 rfl (lv_at hl 1 rfl) ?_
  refine ca_z (w' := WX11 cy h0 a0 s0) (rn_S (As := [.int p1]) (rest := []) ⟨hx, hb, hml, hown, hts⟩ (kX11_isTray l D cy p1 _ rfl H.size) (va_cwS 1 hts gX11_tray_X11_isTray rfl rfl rfl (by decide +kernel) ⟨Nat.le_of_ble_eq_true rfl, Nat.le_of_ble_eq_true rfl⟩) hK hN hP hD [] rfl rfl rfl hl.1 rfl (Nat.le_of_ble_eq_true rfl) dX11_tray_1 ⟨Nat.le_refl 0, Nat.le_refl 0⟩) hP hD hS hA [] ⟨rfl, rfl, rfl, rfl⟩ (fun b1 H locs hP hD hS => ?_)
  refine lv_if_eq (tgt := 26) hx hb dX11_tray_4 (by decide) (fun c2 => ?_) (fun c2 => ?_)
  · replace h := (if_pos c2).symm.trans h
    refine lv_aload_n hx hb dX11_tray_26 rfl (lv_at hl 0 rfl) ?_
    refine lv_iconst (v := 1) hx hb dX11_tray_27 (by decide) ?_
    obtain ⟨r3, hr3, h⟩ := lt_elim h
    refine ca_z (w' := WX11 cy h0 a0 r3.2) (rn_V (As := [.int (1 : Int32)]) (rest := []) ⟨hx, hb, hml, hown, hts⟩ (kX11_is l D cy h0 a0 s0 (1 : Int32) r3 hr3.symm H.size) (cwV 1 hts gX11_tray_X11_is rfl rfl rfl (by decide +kernel) ⟨Nat.le_of_ble_eq_true rfl, Nat.le_of_ble_eq_true rfl⟩) hK hN hP hD [0, 1, 2, 3, 4, 5, 6, 7, 8, 9, 10, 11, 12, 13] rfl rfl (ci := 11) (q0 := 0) rfl rfl rfl rfl hl.1 rfl (Nat.le_of_ble_eq_true rfl) dX11_tray_28 ⟨Nat.le_refl 0, Nat.le_refl 0⟩) hP hD hS hA [0, 1, 2, 3, 4, 5, 6, 7, 8, 9, 10, 11, 12, 13] ⟨rfl, rfl, rfl, rfl⟩ (fun b4 H locs hP hD hS => ?_)
    exact hret 31 H locs ls (r3.1, r3.2) (Option.some.inj h) hP hD hS b4 dX11_tray_31
  · replace h := (if_neg c2).symm.trans h
    refine lv_iload_n hx hb dX11_tray_7 rfl (lv_at hl 2 rfl) ?_
    refine lv_if_lt (tgt := 26) hx hb dX11_tray_8 (by decide) (fun c5 => ?_) (fun c5 => ?_)
    · replace h := (if_pos c5).symm.trans h
      refine lv_aload_n hx hb dX11_tray_26 rfl (lv_at hl 0 rfl) ?_
      refine lv_iconst (v := 1) hx hb dX11_tray_27 (by decide) ?_
      obtain ⟨r6, hr6, h⟩ := lt_elim h
      refine ca_z (w' := WX11 cy h0 a0 r6.2) (rn_V (As := [.int (1 : Int32)]) (rest := []) ⟨hx, hb, hml, hown, hts⟩ (kX11_is l D cy h0 a0 s0 (1 : Int32) r6 hr6.symm H.size) (cwV 1 hts gX11_tray_X11_is rfl rfl rfl (by decide +kernel) ⟨Nat.le_of_ble_eq_true rfl, Nat.le_of_ble_eq_true rfl⟩) hK hN hP hD [0, 1, 2, 3, 4, 5, 6, 7, 8, 9, 10, 11, 12, 13] rfl rfl (ci := 11) (q0 := 0) rfl rfl rfl rfl hl.1 rfl (Nat.le_of_ble_eq_true rfl) dX11_tray_28 ⟨Nat.le_refl 0, Nat.le_refl 0⟩) hP hD hS hA [0, 1, 2, 3, 4, 5, 6, 7, 8, 9, 10, 11, 12, 13] ⟨rfl, rfl, rfl, rfl⟩ (fun b7 H locs hP hD hS => ?_)
      exact hret 31 H locs ls (r6.1, r6.2) (Option.some.inj h) hP hD hS b7 dX11_tray_31
    · replace h := (if_neg c5).symm.trans h
      refine lv_iload_n hx hb dX11_tray_11 rfl (lv_at hl 2 rfl) ?_
      refine lv_iconst (v := 3) hx hb dX11_tray_12 (by decide) ?_
      refine lv_icmp_gt (tgt := 26) hx hb dX11_tray_13 (by decide) (fun c8 => ?_) (fun c8 => ?_)
      · replace h := (if_pos c8).symm.trans h
        refine lv_aload_n hx hb dX11_tray_26 rfl (lv_at hl 0 rfl) ?_
        refine lv_iconst (v := 1) hx hb dX11_tray_27 (by decide) ?_
        obtain ⟨r9, hr9, h⟩ := lt_elim h
        refine ca_z (w' := WX11 cy h0 a0 r9.2) (rn_V (As := [.int (1 : Int32)]) (rest := []) ⟨hx, hb, hml, hown, hts⟩ (kX11_is l D cy h0 a0 s0 (1 : Int32) r9 hr9.symm H.size) (cwV 1 hts gX11_tray_X11_is rfl rfl rfl (by decide +kernel) ⟨Nat.le_of_ble_eq_true rfl, Nat.le_of_ble_eq_true rfl⟩) hK hN hP hD [0, 1, 2, 3, 4, 5, 6, 7, 8, 9, 10, 11, 12, 13] rfl rfl (ci := 11) (q0 := 0) rfl rfl rfl rfl hl.1 rfl (Nat.le_of_ble_eq_true rfl) dX11_tray_28 ⟨Nat.le_refl 0, Nat.le_refl 0⟩) hP hD hS hA [0, 1, 2, 3, 4, 5, 6, 7, 8, 9, 10, 11, 12, 13] ⟨rfl, rfl, rfl, rfl⟩ (fun b10 H locs hP hD hS => ?_)
        exact hret 31 H locs ls (r9.1, r9.2) (Option.some.inj h) hP hD hS b10 dX11_tray_31
      · replace h := (if_neg c8).symm.trans h
        refine lv_iload_n hx hb dX11_tray_16 rfl (lv_at hl 3 rfl) ?_
        refine lv_if_lt (tgt := 26) hx hb dX11_tray_17 (by decide) (fun c11 => ?_) (fun c11 => ?_)
        · replace h := (if_pos c11).symm.trans h
          refine lv_aload_n hx hb dX11_tray_26 rfl (lv_at hl 0 rfl) ?_
          refine lv_iconst (v := 1) hx hb dX11_tray_27 (by decide) ?_
          obtain ⟨r12, hr12, h⟩ := lt_elim h
          refine ca_z (w' := WX11 cy h0 a0 r12.2) (rn_V (As := [.int (1 : Int32)]) (rest := []) ⟨hx, hb, hml, hown, hts⟩ (kX11_is l D cy h0 a0 s0 (1 : Int32) r12 hr12.symm H.size) (cwV 1 hts gX11_tray_X11_is rfl rfl rfl (by decide +kernel) ⟨Nat.le_of_ble_eq_true rfl, Nat.le_of_ble_eq_true rfl⟩) hK hN hP hD [0, 1, 2, 3, 4, 5, 6, 7, 8, 9, 10, 11, 12, 13] rfl rfl (ci := 11) (q0 := 0) rfl rfl rfl rfl hl.1 rfl (Nat.le_of_ble_eq_true rfl) dX11_tray_28 ⟨Nat.le_refl 0, Nat.le_refl 0⟩) hP hD hS hA [0, 1, 2, 3, 4, 5, 6, 7, 8, 9, 10, 11, 12, 13] ⟨rfl, rfl, rfl, rfl⟩ (fun b13 H locs hP hD hS => ?_)
          exact hret 31 H locs ls (r12.1, r12.2) (Option.some.inj h) hP hD hS b13 dX11_tray_31
        · replace h := (if_neg c11).symm.trans h
          refine lv_iload_n hx hb dX11_tray_20 rfl (lv_at hl 3 rfl) ?_
          refine lv_bipush (v := 60) hx hb dX11_tray_21 (by decide) ?_
          refine lv_icmp_le (tgt := 32) hx hb dX11_tray_23 (by decide) (fun c14 => ?_) (fun c14 => ?_)
          · replace h := (if_pos c14).symm.trans h
            refine lv_aload_n hx hb dX11_tray_32 rfl (lv_at hl 0 rfl) ?_
            refine va_get (D := D) (ci := 11) (v := .ref (a0 5)) (C := RX11) (T := TX11) (N := 38) hx hb hts hinX11 hown hK hP 0 rfl rfl 5 (by decide) (hts (.fieldLink RX11 21 "KneeBenchModel" "sort" "[I") (List.mem_of_getElem? (i := 1) rfl)) (fun _ h9 => h9) rfl dX11_tray_33 ?_
            refine lv_iload_n hx hb dX11_tray_36 rfl (lv_at hl 1 rfl) ?_
            refine lv_iload_n hx hb dX11_tray_37 rfl (lv_at hl 2 rfl) ?_
            obtain ⟨g15, h⟩ := gd_elim h
            obtain ⟨s0_16, es, h⟩ := lt_elim h
            refine va_iast hx hb hK hP hD hS 3 1 rfl rfl (inb_in g15) dX11_tray_38 (fun H locs hP hD hS => ?_)
            have hP : va_P D vwCl (WX11 cy h0 a0 s0_16) H := by rw [es]; exact hP
            have hD : va_D A (WX11 cy h0 a0 s0_16) := by rw [es]; exact hD
            clear es
            refine lv_aload_n hx hb dX11_tray_39 rfl (lv_at hl 0 rfl) ?_
            refine va_get (D := D) (ci := 11) (v := .ref (a0 6)) (C := RX11) (T := TX11) (N := 38) hx hb hts hinX11 hown hK hP 0 rfl rfl 6 (by decide) (hts (.fieldLink RX11 24 "KneeBenchModel" "trayMany" "[I") (List.mem_of_getElem? (i := 2) rfl)) (fun _ h9 => h9) rfl dX11_tray_40 ?_
            refine lv_iload_n hx hb dX11_tray_43 rfl (lv_at hl 1 rfl) ?_
            refine lv_iload_n hx hb dX11_tray_44 rfl (lv_at hl 3 rfl) ?_
            obtain ⟨s0_17, es, h⟩ := lt_elim h
            refine va_iast hx hb hK hP hD hS 4 1 rfl rfl (inb_in g15) dX11_tray_45 (fun H locs hP hD hS => ?_)
            have hP : va_P D vwCl (WX11 cy h0 a0 s0_17) H := by rw [es]; exact hP
            have hD : va_D A (WX11 cy h0 a0 s0_17) := by rw [es]; exact hD
            clear es
            refine lv_iconst (v := 0) hx hb dX11_tray_46 (by decide) ?_
            refine lv_istore (lv' := [(4, .int (0 : Int32)), (0, .ref h0), (1, .int p1), (2, .int p2), (3, .int p3)]) hx hb dX11_tray_47 hl (by decide) rfl (fun ls hl => ?_)
            have L49 : ∀ (n : Nat) (q49 : Int32 × Rc) (o : Rc), loopO (fX11_tray_L49 p1 p3) n q49 = some o → ∀ (H : Heap) (locs : List Loc) (ls : Array Slot), lv_has ls 5 [(0, .ref h0), (1, .int p1), (3, .int p3), (4, .int q49.1)] → va_P D vwCl (WX11 cy h0 a0 q49.2) H → va_D A (WX11 cy h0 a0 q49.2) → va_S A s.heap H locs → ∀ (kk74 : ∀ (H : Heap) (locs : List Loc) (ls : Array Slot), lv_has ls 5 [(0, .ref h0)] → va_P D vwCl (WX11 cy h0 a0 o) H → va_D A (WX11 cy h0 a0 o) → va_S A s.heap H locs → W p l e rmX11_tray s m args below meth c H locs 0 0 QQ (F0 m 74 ls [])), W p l e rmX11_tray s m args below meth c H locs 0 0 QQ (F0 m 49 ls []) := by
              intro n
              induction n with
              | zero => intro q49 o h; exact absurd h (by rw [loopO_zero]; intro z; cases z)
              | succ n ih =>
                intro q49 o h H locs ls hl hP hD hS kk74
                obtain ⟨w, h, hgo, hst⟩ := loopO_elim h
                unfold fX11_tray_L49 at h
                refine lv_iload hx hb dX11_tray_49 (lv_at hl 3 rfl) ?_
                refine lv_iload_n hx hb dX11_tray_51 rfl (lv_at hl 2 rfl) ?_
                refine lv_icmp_ge (tgt := 74) hx hb dX11_tray_52 (by decide) (fun c18 => ?_) (fun c18 => ?_)
                · replace h := (if_pos c18).symm.trans h
                  have eo := hst _ (Option.some.inj h).symm
                  subst eo
                  exact kk74 H locs ls (lv_sub hl [0] rfl) hP hD hS
                · replace h := (if_neg c18).symm.trans h
                  refine lv_aload_n hx hb dX11_tray_55 rfl (lv_at hl 0 rfl) ?_
                  refine va_get (D := D) (ci := 11) (v := .ref (a0 7)) (C := RX11) (T := TX11) (N := 38) hx hb hts hinX11 hown hK hP 0 rfl rfl 7 (by decide) (hts (.fieldLink RX11 27 "KneeBenchModel" "trays" "[J") (List.mem_of_getElem? (i := 3) rfl)) (fun _ h9 => h9) rfl dX11_tray_56 ?_
                  refine lv_bipush (v := 60) hx hb dX11_tray_59 (by decide) ?_
                  refine lv_iload_n hx hb dX11_tray_61 rfl (lv_at hl 1 rfl) ?_
                  refine lv_imul hx hb dX11_tray_62 ?_
                  refine lv_iload hx hb dX11_tray_63 (lv_at hl 3 rfl) ?_
                  refine lv_iadd hx hb dX11_tray_65 ?_
                  refine lv_lconst (v := 0) hx hb dX11_tray_66 (by decide) ?_
                  obtain ⟨g19, h⟩ := gd_elim h
                  obtain ⟨s0_20, es, h⟩ := lt_elim h
                  refine va_last hx hb hK hP hD hS 5 2 rfl rfl (inb_in g19) dX11_tray_67 (fun H locs hP hD hS => ?_)
                  have hP : va_P D vwCl (WX11 cy h0 a0 s0_20) H := by rw [es]; exact hP
                  have hD : va_D A (WX11 cy h0 a0 s0_20) := by rw [es]; exact hD
                  clear es
                  refine lv_iinc (v := (q49.1 + (1 : Int32))) (lv' := [(4, .int (q49.1 + (1 : Int32))), (0, .ref h0), (1, .int p1), (3, .int p3)]) hx hb dX11_tray_68 hl (k := 3) rfl rfl (by decide) rfl (fun ls hl => ?_)
                  refine lv_goto (tgt := 49) hx hb dX11_tray_71 (by decide) ?_
                  exact ih _ o (hgo _ (Option.some.inj h).symm) H locs ls (lv_sub hl [1, 2, 3, 0] rfl) hP hD hS kk74
            obtain ⟨o49, ho49, h⟩ := bd_elim h
            obtain ⟨n49, hn49⟩ := loopF_some ho49
            refine L49 n49 _ o49 hn49 H locs ls (lv_sub hl [1, 2, 4, 0] rfl) hP hD hS (fun H locs ls hl hP hD hS => ?_)
            refine lv_aload_n hx hb dX11_tray_74 rfl (lv_at hl 0 rfl) ?_
            refine lv_iconst (v := 0) hx hb dX11_tray_75 (by decide) ?_
            obtain ⟨r21, hr21, h⟩ := lt_elim h
            refine ca_z (w' := WX11 cy h0 a0 r21.2) (rn_V (As := [.int (0 : Int32)]) (rest := []) ⟨hx, hb, hml, hown, hts⟩ (kX11_is l D cy h0 a0 o49 (0 : Int32) r21 hr21.symm H.size) (cwV 1 hts gX11_tray_X11_is rfl rfl rfl (by decide +kernel) ⟨Nat.le_of_ble_eq_true rfl, Nat.le_of_ble_eq_true rfl⟩) hK hN hP hD [0, 1, 2, 3, 4, 5, 6, 7, 8, 9, 10, 11, 12, 13] rfl rfl (ci := 11) (q0 := 0) rfl rfl rfl rfl hl.1 rfl (Nat.le_of_ble_eq_true rfl) dX11_tray_76 ⟨Nat.le_refl 0, Nat.le_refl 0⟩) hP hD hS hA [0, 1, 2, 3, 4, 5, 6, 7, 8, 9, 10, 11, 12, 13] ⟨rfl, rfl, rfl, rfl⟩ (fun b22 H locs hP hD hS => ?_)
            exact hret 79 H locs ls (r21.1, r21.2) (Option.some.inj h) hP hD hS b22 dX11_tray_79
          · replace h := (if_neg c14).symm.trans h
            refine lv_aload_n hx hb dX11_tray_26 rfl (lv_at hl 0 rfl) ?_
            refine lv_iconst (v := 1) hx hb dX11_tray_27 (by decide) ?_
            obtain ⟨r23, hr23, h⟩ := lt_elim h
            refine ca_z (w' := WX11 cy h0 a0 r23.2) (rn_V (As := [.int (1 : Int32)]) (rest := []) ⟨hx, hb, hml, hown, hts⟩ (kX11_is l D cy h0 a0 s0 (1 : Int32) r23 hr23.symm H.size) (cwV 1 hts gX11_tray_X11_is rfl rfl rfl (by decide +kernel) ⟨Nat.le_of_ble_eq_true rfl, Nat.le_of_ble_eq_true rfl⟩) hK hN hP hD [0, 1, 2, 3, 4, 5, 6, 7, 8, 9, 10, 11, 12, 13] rfl rfl (ci := 11) (q0 := 0) rfl rfl rfl rfl hl.1 rfl (Nat.le_of_ble_eq_true rfl) dX11_tray_28 ⟨Nat.le_refl 0, Nat.le_refl 0⟩) hP hD hS hA [0, 1, 2, 3, 4, 5, 6, 7, 8, 9, 10, 11, 12, 13] ⟨rfl, rfl, rfl, rfl⟩ (fun b24 H locs hP hD hS => ?_)
            exact hret 31 H locs ls (r23.1, r23.2) (Option.some.inj h) hP hD hS b24 dX11_tray_31
set_option maxRecDepth 20000 in
theorem ggX11_truest_X11_toldOf : GoodIn wsX11_truest wsX11_toldOf := goodIn_r _ [6, 1, 7, 8, 9, 5, 10, 11, 12, 13, 14, 15, 16, 17, 18, 19, 20, 21, 22, 23, 24, 25, 26, 27, 28, 29, 30, 56, 57, 58, 59, 60, 61, 62, 63, 64, 65, 66, 67, 68, 69, 70, 71, 72, 73, 74, 75, 76, 77, 78, 79, 80, 81, 82, 83, 84, 85, 86, 87, 88, 89, 90, 91, 92, 93] (by decide +kernel) (by decide +kernel)
set_option maxRecDepth 20000 in
theorem gX11_truest_X11_toldOf : GoodIn wsX11_truest (wsV RX11 331 RX11 yX11_toldOf wsX11_toldOf) := goodIn_app (goodIn_of _ (by decide +kernel)) ggX11_truest_X11_toldOf
set_option maxRecDepth 20000 in
theorem ggX11_truest_X11_rightOf : GoodIn wsX11_truest wsX11_rightOf := goodIn_r _ [34, 1, 35, 36, 37, 5, 38, 7, 8, 9, 10, 11, 12, 13, 14, 15, 16, 17, 18, 19, 20, 21, 22, 23, 24, 25, 26, 27, 28, 29, 30, 39, 40, 41, 42, 56, 57, 58, 59, 60, 61, 62, 63, 64, 65, 66, 67, 68, 69, 70, 71, 72, 73, 74, 75, 76, 77, 78, 79, 80, 81, 82, 83, 84, 85, 86, 87, 88, 89, 90, 91, 92, 93] (by decide +kernel) (by decide +kernel)
set_option maxRecDepth 20000 in
theorem gX11_truest_X11_rightOf : GoodIn wsX11_truest (wsV RX11 328 RX11 yX11_rightOf wsX11_rightOf) := goodIn_app (goodIn_of _ (by decide +kernel)) ggX11_truest_X11_rightOf
set_option maxRecDepth 20000 in
theorem ggX11_truest_X11_orNone : GoodIn wsX11_truest wsX11_orNone := goodIn_r _ [46, 47, 48, 49, 5, 50, 51, 52, 53, 54, 55, 56, 57, 58, 59, 60, 61, 62, 63, 64, 65, 66, 67, 68, 69, 70, 71, 72, 73, 74, 75, 76, 77, 78, 79, 80, 81, 82, 83, 84, 85, 86, 87, 88, 89, 90, 91, 92, 93] (by decide +kernel) (by decide +kernel)
set_option maxRecDepth 20000 in
theorem gX11_truest_X11_orNone : GoodIn wsX11_truest (wsV RX11 310 RX11 yX11_orNone wsX11_orNone) := goodIn_app (goodIn_of _ (by decide +kernel)) ggX11_truest_X11_orNone
theorem dX11_truest_0 : decode cX11_truest 0 = .ok (.iconst (-1), 1) := by decide +kernel
theorem dX11_truest_1 : decode cX11_truest 1 = .ok (.istore_n 1, 1) := by decide +kernel
theorem dX11_truest_2 : decode cX11_truest 2 = .ok (.iconst 0, 1) := by decide +kernel
theorem dX11_truest_3 : decode cX11_truest 3 = .ok (.istore_n 2, 1) := by decide +kernel
theorem dX11_truest_4 : decode cX11_truest 4 = .ok (.iload_n 2, 1) := by decide +kernel
theorem dX11_truest_5 : decode cX11_truest 5 = .ok (.aload_n 0, 1) := by decide +kernel
theorem dX11_truest_6 : decode cX11_truest 6 = .ok (.getfield 7, 3) := by decide +kernel
theorem dX11_truest_9 : decode cX11_truest 9 = .ok (.iconst 0, 1) := by decide +kernel
theorem dX11_truest_10 : decode cX11_truest 10 = .ok (.iaload, 1) := by decide +kernel
theorem dX11_truest_11 : decode cX11_truest 11 = .ok (.if_icmp .ge 49, 3) := by decide +kernel
theorem dX11_truest_14 : decode cX11_truest 14 = .ok (.aload_n 0, 1) := by decide +kernel
theorem dX11_truest_15 : decode cX11_truest 15 = .ok (.iload_n 2, 1) := by decide +kernel
theorem dX11_truest_16 : decode cX11_truest 16 = .ok (.invokevirtual 331, 3) := by decide +kernel
theorem dX11_truest_19 : decode cX11_truest 19 = .ok (.ifCond .le 35, 3) := by decide +kernel
theorem dX11_truest_22 : decode cX11_truest 22 = .ok (.iload_n 1, 1) := by decide +kernel
theorem dX11_truest_23 : decode cX11_truest 23 = .ok (.iconst (-1), 1) := by decide +kernel
theorem dX11_truest_24 : decode cX11_truest 24 = .ok (.if_icmp .eq 28, 3) := by decide +kernel
theorem dX11_truest_27 : decode cX11_truest 27 = .ok (.aload_n 0, 1) := by decide +kernel
theorem dX11_truest_28 : decode cX11_truest 28 = .ok (.iload_n 2, 1) := by decide +kernel
theorem dX11_truest_29 : decode cX11_truest 29 = .ok (.invokevirtual 328, 3) := by decide +kernel
theorem dX11_truest_32 : decode cX11_truest 32 = .ok (.aload_n 0, 1) := by decide +kernel
theorem dX11_truest_33 : decode cX11_truest 33 = .ok (.iload_n 1, 1) := by decide +kernel
theorem dX11_truest_34 : decode cX11_truest 34 = .ok (.invokevirtual 331, 3) := by decide +kernel
theorem dX11_truest_37 : decode cX11_truest 37 = .ok (.imul, 1) := by decide +kernel
theorem dX11_truest_38 : decode cX11_truest 38 = .ok (.aload_n 0, 1) := by decide +kernel
theorem dX11_truest_39 : decode cX11_truest 39 = .ok (.iload_n 1, 1) := by decide +kernel
theorem dX11_truest_40 : decode cX11_truest 40 = .ok (.invokevirtual 328, 3) := by decide +kernel
theorem dX11_truest_43 : decode cX11_truest 43 = .ok (.aload_n 0, 1) := by decide +kernel
theorem dX11_truest_44 : decode cX11_truest 44 = .ok (.iload_n 2, 1) := by decide +kernel
theorem dX11_truest_45 : decode cX11_truest 45 = .ok (.invokevirtual 331, 3) := by decide +kernel
theorem dX11_truest_48 : decode cX11_truest 48 = .ok (.imul, 1) := by decide +kernel
theorem dX11_truest_49 : decode cX11_truest 49 = .ok (.if_icmp .le 5, 3) := by decide +kernel
theorem dX11_truest_52 : decode cX11_truest 52 = .ok (.iload_n 2, 1) := by decide +kernel
theorem dX11_truest_53 : decode cX11_truest 53 = .ok (.istore_n 1, 1) := by decide +kernel
theorem dX11_truest_54 : decode cX11_truest 54 = .ok (.iinc 2 1, 3) := by decide +kernel
theorem dX11_truest_57 : decode cX11_truest 57 = .ok (.goto (-53), 3) := by decide +kernel
theorem dX11_truest_60 : decode cX11_truest 60 = .ok (.aload_n 0, 1) := by decide +kernel
theorem dX11_truest_61 : decode cX11_truest 61 = .ok (.iload_n 1, 1) := by decide +kernel
theorem dX11_truest_62 : decode cX11_truest 62 = .ok (.invokevirtual 310, 3) := by decide +kernel
theorem dX11_truest_65 : decode cX11_truest 65 = .ok (.ireturn, 1) := by decide +kernel
noncomputable def fX11_truest_L4 (s0 : Rc) (q4 : Int32 × Int32) : Option ((Int32 × Int32) ⊕ Int32) :=
if (ga s0 0 (0 : Int32).toNatClampNeg) ≤ q4.2 then (
some (.inr q4.1)) else (
(fX11_toldOf q4.2 s0).bind (fun r2 =>
if r2 ≤ (0 : Int32) then (
some (.inl (q4.1, (q4.2 + (1 : Int32))))) else (
if q4.1 = (-1 : Int32) then (
some (.inl (q4.2, (q4.2 + (1 : Int32))))) else (
(fX11_rightOf q4.2 s0).bind (fun r5 =>
(fX11_toldOf q4.1 s0).bind (fun r6 =>
(fX11_rightOf q4.1 s0).bind (fun r7 =>
(fX11_toldOf q4.2 s0).bind (fun r8 =>
if (r5 * r6) ≤ (r7 * r8) then (
some (.inl (q4.1, (q4.2 + (1 : Int32))))) else (
some (.inl (q4.2, (q4.2 + (1 : Int32)))))))))))))
noncomputable def fX11_truest (s0 : Rc) : Option (Int32 × Rc) :=
(loopF (fX11_truest_L4 s0) ((-1 : Int32), (0 : Int32))).bind (fun o4 =>
lt_ (fX11_orNone o4 s0) (fun r10 =>
some (r10.1, r10.2)))
abbrev rmX11_truest : Room := { frames := 5, cells := 0, slots := 0, locals := 111 }
set_option maxHeartbeats 4000000 in
set_option maxRecDepth 100000 in
theorem kX11_truest (l : Launch) (D : va_G) (cy : Nat → ClassId) (h0 : Nat) (a0 : Nat → Nat) (s0 : Rc) (res : Int32 × Rc) (h : fX11_truest s0 = some res) : CI l D cy yX11_truest wsX11_truest rmX11_truest [.ref h0] (WX11 cy h0 a0 s0) (WX11 cy h0 a0 res.2) res.1 := by
  refine CI.of (cc := cX11_truest) (maxL := 3) (by decide) rfl (Nat.le_of_ble_eq_true rfl) ?_
  intro p e s m args below meth c A QQ ls E hr
  obtain ⟨hx, hb, hml, hown, hts, hK, hN, hP, hD, hA, hl⟩ := E
  have hret : ∀ (pc : Nat) (H : Heap) (locs : List Loc) (ls : Array Slot) (u : Int32 × Rc), u = res → va_P D vwCl (WX11 cy h0 a0 u.2) H → va_D A (WX11 cy h0 a0 u.2) → va_S A s.heap H locs → decode cX11_truest pc = .ok (.ireturn, 1) → W p l e rmX11_truest s m args below meth c H locs 0 0 QQ (F0 m pc ls [.int u.1]) := by
    intro pc H locs ls u hu hP hD hS hd; subst hu; exact hr pc H locs ls _ rfl hP hD hS hd
  clear hr
  have hl : lv_has ls 3 [(0, .ref h0)] := hl
  have hinX11 : ∀ w ∈ wsX110, w ∈ wsX11_truest := fun _ h => List.mem_cons_of_mem _ (List.mem_append_right _ h)
  unfold fX11_truest at h
  suffices key : ∀ (H : Heap) (locs : List Loc), va_P D vwCl (WX11 cy h0 a0 s0) H → va_S A s.heap H locs → W p l e rmX11_truest s m args below meth c H locs 0 0 QQ (F0 m 0 ls []) from key _ _ hP va_S.rf
  clear hP
  intro H locs hP hS
  refine lv_iconst (v := -1) hx hb dX11_truest_0 (by decide) ?_
  refine lv_istore_n (lv' := [(1, .int (-1 : Int32)), (0, .ref h0)]) hx hb dX11_truest_1 rfl hl (by decide) rfl (fun ls hl => ?_)
  refine lv_iconst (v := 0) hx hb dX11_truest_2 (by decide) ?_
  refine lv_istore_n (lv' := [(2, .int (0 : Int32)), (1, .int (-1 : Int32)), (0, .ref h0)]) hx hb dX11_truest_3 rfl hl (by decide) rfl (fun ls hl => ?_)
  have L4 : ∀ (n : Nat) (q4 : Int32 × Int32) (o : Int32), loopO (fX11_truest_L4 s0) n q4 = some o → ∀ (H : Heap) (locs : List Loc) (ls : Array Slot), lv_has ls 3 [(0, .ref h0), (1, .int q4.1), (2, .int q4.2)] → va_P D vwCl (WX11 cy h0 a0 s0) H → va_D A (WX11 cy h0 a0 s0) → va_S A s.heap H locs → ∀ (kk60 : ∀ (H : Heap) (locs : List Loc) (ls : Array Slot), lv_has ls 3 [(0, .ref h0), (1, .int o)] → va_P D vwCl (WX11 cy h0 a0 s0) H → va_D A (WX11 cy h0 a0 s0) → va_S A s.heap H locs → W p l e rmX11_truest s m args below meth c H locs 0 0 QQ (F0 m 60 ls [])), W p l e rmX11_truest s m args below meth c H locs 0 0 QQ (F0 m 4 ls []) := by
    intro n
    induction n with
    | zero => intro q4 o h; exact absurd h (by rw [loopO_zero]; intro z; cases z)
    | succ n ih =>
      intro q4 o h H locs ls hl hP hD hS kk60
      obtain ⟨w, h, hgo, hst⟩ := loopO_elim h
      unfold fX11_truest_L4 at h
      refine lv_iload_n hx hb dX11_truest_4 rfl (lv_at hl 2 rfl) ?_
      refine lv_aload_n hx hb dX11_truest_5 rfl (lv_at hl 0 rfl) ?_
      refine va_get (D := D) (ci := 11) (v := .ref (a0 0)) (C := RX11) (T := TX11) (N := 38) hx hb hts hinX11 hown hK hP 0 rfl rfl 0 (by decide) (hts (.fieldLink RX11 7 "KneeBenchModel" "at" "[I") (List.mem_of_getElem? (i := 1) rfl)) (fun _ h9 => h9) rfl dX11_truest_6 ?_
      refine lv_iconst (v := 0) hx hb dX11_truest_9 (by decide) ?_
      refine va_iald hx hb hK hP 1 1 rfl rfl (inb_in (by decide)) dX11_truest_10 ?_
      refine lv_icmp_ge (tgt := 60) hx hb dX11_truest_11 (by decide) (fun c1 => ?_) (fun c1 => ?_)
      · replace h := (if_pos c1).symm.trans h
        have eo := hst _ (Option.some.inj h).symm
        subst eo
        exact kk60 H locs ls (lv_sub hl [0, 1] rfl) hP hD hS
      · replace h := (if_neg c1).symm.trans h
        refine lv_aload_n hx hb dX11_truest_14 rfl (lv_at hl 0 rfl) ?_
        refine lv_iload_n hx hb dX11_truest_15 rfl (lv_at hl 2 rfl) ?_
        obtain ⟨r2, hr2, h⟩ := bd_elim h
        refine ca_i (w' := WX11 cy h0 a0 s0) (rn_V (As := [.int q4.2]) (rest := []) ⟨hx, hb, hml, hown, hts⟩ (kX11_toldOf l D cy h0 a0 s0 q4.2 r2 hr2 H.size) (cwV 1 hts gX11_truest_X11_toldOf rfl rfl rfl (by decide +kernel) ⟨Nat.le_of_ble_eq_true rfl, Nat.le_of_ble_eq_true rfl⟩) hK hN hP hD [0, 1, 2, 3, 4, 5, 6, 7, 8, 9, 10, 11, 12, 13] rfl rfl (ci := 11) (q0 := 0) rfl rfl rfl rfl hl.1 rfl (Nat.le_of_ble_eq_true rfl) dX11_truest_16 ⟨Nat.le_refl 0, Nat.le_refl 0⟩) hP hD hS hA [0, 1, 2, 3, 4, 5, 6, 7, 8, 9, 10, 11, 12, 13] ⟨rfl, rfl, rfl, rfl⟩ (fun H locs hP hD hS => ?_)
        refine lv_if_le (tgt := 54) hx hb dX11_truest_19 (by decide) (fun c3 => ?_) (fun c3 => ?_)
        · replace h := (if_pos c3).symm.trans h
          refine lv_iinc (v := (q4.2 + (1 : Int32))) (lv' := [(2, .int (q4.2 + (1 : Int32))), (0, .ref h0), (1, .int q4.1)]) hx hb dX11_truest_54 hl (k := 2) rfl rfl (by decide) rfl (fun ls hl => ?_)
          refine lv_goto (tgt := 4) hx hb dX11_truest_57 (by decide) ?_
          exact ih _ o (hgo _ (Option.some.inj h).symm) H locs ls (lv_sub hl [1, 2, 0] rfl) hP hD hS kk60
        · replace h := (if_neg c3).symm.trans h
          refine lv_iload_n hx hb dX11_truest_22 rfl (lv_at hl 1 rfl) ?_
          refine lv_iconst (v := -1) hx hb dX11_truest_23 (by decide) ?_
          refine lv_icmp_eq (tgt := 52) hx hb dX11_truest_24 (by decide) (fun c4 => ?_) (fun c4 => ?_)
          · replace h := (if_pos c4).symm.trans h
            refine lv_iload_n hx hb dX11_truest_52 rfl (lv_at hl 2 rfl) ?_
            refine lv_istore_n (lv' := [(1, .int q4.2), (0, .ref h0), (2, .int q4.2)]) hx hb dX11_truest_53 rfl hl (by decide) rfl (fun ls hl => ?_)
            refine lv_iinc (v := (q4.2 + (1 : Int32))) (lv' := [(2, .int (q4.2 + (1 : Int32))), (1, .int q4.2), (0, .ref h0)]) hx hb dX11_truest_54 hl (k := 2) rfl rfl (by decide) rfl (fun ls hl => ?_)
            refine lv_goto (tgt := 4) hx hb dX11_truest_57 (by decide) ?_
            exact ih _ o (hgo _ (Option.some.inj h).symm) H locs ls (lv_sub hl [2, 1, 0] rfl) hP hD hS kk60
          · replace h := (if_neg c4).symm.trans h
            refine lv_aload_n hx hb dX11_truest_27 rfl (lv_at hl 0 rfl) ?_
            refine lv_iload_n hx hb dX11_truest_28 rfl (lv_at hl 2 rfl) ?_
            obtain ⟨r5, hr5, h⟩ := bd_elim h
            refine ca_i (w' := WX11 cy h0 a0 s0) (rn_V (As := [.int q4.2]) (rest := []) ⟨hx, hb, hml, hown, hts⟩ (kX11_rightOf l D cy h0 a0 s0 q4.2 r5 hr5 H.size) (cwV 1 hts gX11_truest_X11_rightOf rfl rfl rfl (by decide +kernel) ⟨Nat.le_of_ble_eq_true rfl, Nat.le_of_ble_eq_true rfl⟩) hK hN hP hD [0, 1, 2, 3, 4, 5, 6, 7, 8, 9, 10, 11, 12, 13] rfl rfl (ci := 11) (q0 := 0) rfl rfl rfl rfl hl.1 rfl (Nat.le_of_ble_eq_true rfl) dX11_truest_29 ⟨Nat.le_refl 0, Nat.le_refl 0⟩) hP hD hS hA [0, 1, 2, 3, 4, 5, 6, 7, 8, 9, 10, 11, 12, 13] ⟨rfl, rfl, rfl, rfl⟩ (fun H locs hP hD hS => ?_)
            refine lv_aload_n hx hb dX11_truest_32 rfl (lv_at hl 0 rfl) ?_
            refine lv_iload_n hx hb dX11_truest_33 rfl (lv_at hl 1 rfl) ?_
            obtain ⟨r6, hr6, h⟩ := bd_elim h
            refine ca_i (w' := WX11 cy h0 a0 s0) (rn_V (As := [.int q4.1]) (rest := [.int r5]) ⟨hx, hb, hml, hown, hts⟩ (kX11_toldOf l D cy h0 a0 s0 q4.1 r6 hr6 H.size) (cwV 1 hts gX11_truest_X11_toldOf rfl rfl rfl (by decide +kernel) ⟨Nat.le_of_ble_eq_true rfl, Nat.le_of_ble_eq_true rfl⟩) hK hN hP hD [0, 1, 2, 3, 4, 5, 6, 7, 8, 9, 10, 11, 12, 13] rfl rfl (ci := 11) (q0 := 0) rfl rfl rfl rfl hl.1 rfl (Nat.le_of_ble_eq_true rfl) dX11_truest_34 ⟨Nat.le_refl 0, Nat.le_refl 0⟩) hP hD hS hA [0, 1, 2, 3, 4, 5, 6, 7, 8, 9, 10, 11, 12, 13] ⟨rfl, rfl, rfl, rfl⟩ (fun H locs hP hD hS => ?_)
            refine lv_imul hx hb dX11_truest_37 ?_
            refine lv_aload_n hx hb dX11_truest_38 rfl (lv_at hl 0 rfl) ?_
            refine lv_iload_n hx hb dX11_truest_39 rfl (lv_at hl 1 rfl) ?_
            obtain ⟨r7, hr7, h⟩ := bd_elim h
            refine ca_i (w' := WX11 cy h0 a0 s0) (rn_V (As := [.int q4.1]) (rest := [.int (r5 * r6)]) ⟨hx, hb, hml, hown, hts⟩ (kX11_rightOf l D cy h0 a0 s0 q4.1 r7 hr7 H.size) (cwV 1 hts gX11_truest_X11_rightOf rfl rfl rfl (by decide +kernel) ⟨Nat.le_of_ble_eq_true rfl, Nat.le_of_ble_eq_true rfl⟩) hK hN hP hD [0, 1, 2, 3, 4, 5, 6, 7, 8, 9, 10, 11, 12, 13] rfl rfl (ci := 11) (q0 := 0) rfl rfl rfl rfl hl.1 rfl (Nat.le_of_ble_eq_true rfl) dX11_truest_40 ⟨Nat.le_refl 0, Nat.le_refl 0⟩) hP hD hS hA [0, 1, 2, 3, 4, 5, 6, 7, 8, 9, 10, 11, 12, 13] ⟨rfl, rfl, rfl, rfl⟩ (fun H locs hP hD hS => ?_)
            refine lv_aload_n hx hb dX11_truest_43 rfl (lv_at hl 0 rfl) ?_
            refine lv_iload_n hx hb dX11_truest_44 rfl (lv_at hl 2 rfl) ?_
            obtain ⟨r8, hr8, h⟩ := bd_elim h
            refine ca_i (w' := WX11 cy h0 a0 s0) (rn_V (As := [.int q4.2]) (rest := [.int r7, .int (r5 * r6)]) ⟨hx, hb, hml, hown, hts⟩ (kX11_toldOf l D cy h0 a0 s0 q4.2 r8 hr8 H.size) (cwV 1 hts gX11_truest_X11_toldOf rfl rfl rfl (by decide +kernel) ⟨Nat.le_of_ble_eq_true rfl, Nat.le_of_ble_eq_true rfl⟩) hK hN hP hD [0, 1, 2, 3, 4, 5, 6, 7, 8, 9, 10, 11, 12, 13] rfl rfl (ci := 11) (q0 := 0) rfl rfl rfl rfl hl.1 rfl (Nat.le_of_ble_eq_true rfl) dX11_truest_45 ⟨Nat.le_refl 0, Nat.le_refl 0⟩) hP hD hS hA [0, 1, 2, 3, 4, 5, 6, 7, 8, 9, 10, 11, 12, 13] ⟨rfl, rfl, rfl, rfl⟩ (fun H locs hP hD hS => ?_)
            refine lv_imul hx hb dX11_truest_48 ?_
            refine lv_icmp_le (tgt := 54) hx hb dX11_truest_49 (by decide) (fun c9 => ?_) (fun c9 => ?_)
            · replace h := (if_pos c9).symm.trans h
              refine lv_iinc (v := (q4.2 + (1 : Int32))) (lv' := [(2, .int (q4.2 + (1 : Int32))), (0, .ref h0), (1, .int q4.1)]) hx hb dX11_truest_54 hl (k := 2) rfl rfl (by decide) rfl (fun ls hl => ?_)
              refine lv_goto (tgt := 4) hx hb dX11_truest_57 (by decide) ?_
              exact ih _ o (hgo _ (Option.some.inj h).symm) H locs ls (lv_sub hl [1, 2, 0] rfl) hP hD hS kk60
            · replace h := (if_neg c9).symm.trans h
              refine lv_iload_n hx hb dX11_truest_52 rfl (lv_at hl 2 rfl) ?_
              refine lv_istore_n (lv' := [(1, .int q4.2), (0, .ref h0), (2, .int q4.2)]) hx hb dX11_truest_53 rfl hl (by decide) rfl (fun ls hl => ?_)
              refine lv_iinc (v := (q4.2 + (1 : Int32))) (lv' := [(2, .int (q4.2 + (1 : Int32))), (1, .int q4.2), (0, .ref h0)]) hx hb dX11_truest_54 hl (k := 2) rfl rfl (by decide) rfl (fun ls hl => ?_)
              refine lv_goto (tgt := 4) hx hb dX11_truest_57 (by decide) ?_
              exact ih _ o (hgo _ (Option.some.inj h).symm) H locs ls (lv_sub hl [2, 1, 0] rfl) hP hD hS kk60
  obtain ⟨o4, ho4, h⟩ := bd_elim h
  obtain ⟨n4, hn4⟩ := loopF_some ho4
  refine L4 n4 _ o4 hn4 H locs ls (lv_sub hl [2, 1, 0] rfl) hP hD hS (fun H locs ls hl hP hD hS => ?_)
  refine lv_aload_n hx hb dX11_truest_60 rfl (lv_at hl 0 rfl) ?_
  refine lv_iload_n hx hb dX11_truest_61 rfl (lv_at hl 1 rfl) ?_
  obtain ⟨r10, hr10, h⟩ := lt_elim h
  refine ca_i (w' := WX11 cy h0 a0 r10.2) (rn_V (As := [.int o4]) (rest := []) ⟨hx, hb, hml, hown, hts⟩ (kX11_orNone l D cy h0 a0 s0 o4 r10 hr10.symm H.size) (cwV 1 hts gX11_truest_X11_orNone rfl rfl rfl (by decide +kernel) ⟨Nat.le_of_ble_eq_true rfl, Nat.le_of_ble_eq_true rfl⟩) hK hN hP hD [0, 1, 2, 3, 4, 5, 6, 7, 8, 9, 10, 11, 12, 13] rfl rfl (ci := 11) (q0 := 0) rfl rfl rfl rfl hl.1 rfl (Nat.le_of_ble_eq_true rfl) dX11_truest_62 ⟨Nat.le_refl 0, Nat.le_refl 0⟩) hP hD hS hA [0, 1, 2, 3, 4, 5, 6, 7, 8, 9, 10, 11, 12, 13] ⟨rfl, rfl, rfl, rfl⟩ (fun H locs hP hD hS => ?_)
  exact hret 65 H locs ls (r10.1, r10.2) (Option.some.inj h) hP hD hS dX11_truest_65
set_option maxRecDepth 20000 in
theorem ggX11_trust_X11_isFarmer : GoodIn wsX11_trust wsX11_isFarmer := goodIn_r _ [5, 6, 58, 59, 60, 61, 62, 63, 64, 65, 66, 67, 68, 69, 70, 71, 72, 73, 74, 75, 76, 77, 78, 79, 80, 81, 82, 83, 84, 85, 86, 87, 88, 89, 90, 91, 92, 93, 94, 95] (by decide +kernel) (by decide +kernel)
set_option maxRecDepth 20000 in
theorem gX11_trust_X11_isFarmer : GoodIn wsX11_trust (wsV RX11 267 RX11 yX11_isFarmer wsX11_isFarmer) := goodIn_app (goodIn_of _ (by decide +kernel)) ggX11_trust_X11_isFarmer
set_option maxRecDepth 20000 in
theorem ggX11_trust_X11_is : GoodIn wsX11_trust wsX11_is := goodIn_r _ [10, 11, 58, 59, 60, 61, 62, 63, 64, 65, 66, 67, 68, 69, 70, 71, 72, 73, 74, 75, 76, 77, 78, 79, 80, 81, 82, 83, 84, 85, 86, 87, 88, 89, 90, 91, 92, 93, 94, 95] (by decide +kernel) (by decide +kernel)
set_option maxRecDepth 20000 in
theorem gX11_trust_X11_is : GoodIn wsX11_trust (wsV RX11 82 RX11 yX11_is wsX11_is) := goodIn_app (goodIn_of _ (by decide +kernel)) ggX11_trust_X11_is
set_option maxRecDepth 20000 in
theorem ggX11_trust_X11_toldOf : GoodIn wsX11_trust wsX11_toldOf := goodIn_r _ [15, 6, 16, 17, 18, 4, 19, 20, 21, 22, 23, 24, 25, 26, 27, 28, 29, 30, 31, 32, 33, 34, 35, 36, 37, 38, 39, 58, 59, 60, 61, 62, 63, 64, 65, 66, 67, 68, 69, 70, 71, 72, 73, 74, 75, 76, 77, 78, 79, 80, 81, 82, 83, 84, 85, 86, 87, 88, 89, 90, 91, 92, 93, 94, 95] (by decide +kernel) (by decide +kernel)
set_option maxRecDepth 20000 in
theorem gX11_trust_X11_toldOf : GoodIn wsX11_trust (wsV RX11 331 RX11 yX11_toldOf wsX11_toldOf) := goodIn_app (goodIn_of _ (by decide +kernel)) ggX11_trust_X11_toldOf
set_option maxRecDepth 20000 in
theorem ggX11_trust_X11_rightOf : GoodIn wsX11_trust wsX11_rightOf := goodIn_r _ [43, 6, 44, 45, 46, 4, 47, 16, 17, 18, 19, 20, 21, 22, 23, 24, 25, 26, 27, 28, 29, 30, 31, 32, 33, 34, 35, 36, 37, 38, 39, 48, 49, 50, 51, 58, 59, 60, 61, 62, 63, 64, 65, 66, 67, 68, 69, 70, 71, 72, 73, 74, 75, 76, 77, 78, 79, 80, 81, 82, 83, 84, 85, 86, 87, 88, 89, 90, 91, 92, 93, 94, 95] (by decide +kernel) (by decide +kernel)
set_option maxRecDepth 20000 in
theorem gX11_trust_X11_rightOf : GoodIn wsX11_trust (wsV RX11 328 RX11 yX11_rightOf wsX11_rightOf) := goodIn_app (goodIn_of _ (by decide +kernel)) ggX11_trust_X11_rightOf
set_option maxRecDepth 20000 in
theorem ggX11_trust_X11_tellsBy : GoodIn wsX11_trust wsX11_tellsBy := goodIn_r _ [55, 56, 57, 7, 8, 9, 4, 10, 11, 58, 59, 60, 61, 62, 63, 64, 65, 66, 67, 68, 69, 70, 71, 72, 73, 74, 75, 76, 77, 78, 79, 80, 81, 82, 83, 84, 85, 86, 87, 88, 89, 90, 91, 92, 93, 94, 95] (by decide +kernel) (by decide +kernel)
set_option maxRecDepth 20000 in
theorem gX11_trust_X11_tellsBy : GoodIn wsX11_trust (wsV RX11 334 RX11 yX11_tellsBy wsX11_tellsBy) := goodIn_app (goodIn_of _ (by decide +kernel)) ggX11_trust_X11_tellsBy
theorem dX11_trust_0 : decode cX11_trust 0 = .ok (.aload_n 0, 1) := by decide +kernel
theorem dX11_trust_1 : decode cX11_trust 1 = .ok (.iload_n 1, 1) := by decide +kernel
theorem dX11_trust_2 : decode cX11_trust 2 = .ok (.invokevirtual 267, 3) := by decide +kernel
theorem dX11_trust_5 : decode cX11_trust 5 = .ok (.ifCond .ne 9, 3) := by decide +kernel
theorem dX11_trust_8 : decode cX11_trust 8 = .ok (.aload_n 0, 1) := by decide +kernel
theorem dX11_trust_9 : decode cX11_trust 9 = .ok (.iconst 1, 1) := by decide +kernel
theorem dX11_trust_10 : decode cX11_trust 10 = .ok (.invokevirtual 82, 3) := by decide +kernel
theorem dX11_trust_13 : decode cX11_trust 13 = .ok (.ireturn, 1) := by decide +kernel
theorem dX11_trust_14 : decode cX11_trust 14 = .ok (.aload_n 0, 1) := by decide +kernel
theorem dX11_trust_15 : decode cX11_trust 15 = .ok (.iload_n 1, 1) := by decide +kernel
theorem dX11_trust_16 : decode cX11_trust 16 = .ok (.invokevirtual 331, 3) := by decide +kernel
theorem dX11_trust_19 : decode cX11_trust 19 = .ok (.ifCond .ne 12, 3) := by decide +kernel
theorem dX11_trust_22 : decode cX11_trust 22 = .ok (.aload_n 0, 1) := by decide +kernel
theorem dX11_trust_23 : decode cX11_trust 23 = .ok (.bipush 6, 2) := by decide +kernel
theorem dX11_trust_25 : decode cX11_trust 25 = .ok (.invokevirtual 82, 3) := by decide +kernel
theorem dX11_trust_28 : decode cX11_trust 28 = .ok (.goto 19, 3) := by decide +kernel
theorem dX11_trust_31 : decode cX11_trust 31 = .ok (.aload_n 0, 1) := by decide +kernel
theorem dX11_trust_32 : decode cX11_trust 32 = .ok (.aload_n 0, 1) := by decide +kernel
theorem dX11_trust_33 : decode cX11_trust 33 = .ok (.iload_n 1, 1) := by decide +kernel
theorem dX11_trust_34 : decode cX11_trust 34 = .ok (.invokevirtual 328, 3) := by decide +kernel
theorem dX11_trust_37 : decode cX11_trust 37 = .ok (.i2l, 1) := by decide +kernel
theorem dX11_trust_38 : decode cX11_trust 38 = .ok (.aload_n 0, 1) := by decide +kernel
theorem dX11_trust_39 : decode cX11_trust 39 = .ok (.iload_n 1, 1) := by decide +kernel
theorem dX11_trust_40 : decode cX11_trust 40 = .ok (.invokevirtual 331, 3) := by decide +kernel
theorem dX11_trust_43 : decode cX11_trust 43 = .ok (.i2l, 1) := by decide +kernel
theorem dX11_trust_44 : decode cX11_trust 44 = .ok (.invokevirtual 334, 3) := by decide +kernel
theorem dX11_trust_47 : decode cX11_trust 47 = .ok (.ireturn, 1) := by decide +kernel
noncomputable def fX11_trust (p1 : Int32) (s0 : Rc) : Option (Int32 × Rc) :=
if (fX11_isFarmer p1 s0) = (0 : Int32) then (
lt_ (fX11_is (1 : Int32) s0) (fun r11 =>
some (r11.1, r11.2))) else (
(fX11_toldOf p1 s0).bind (fun r3 =>
if r3 = (0 : Int32) then (
lt_ (fX11_is (6 : Int32) s0) (fun r9 =>
some (r9.1, r9.2))) else (
(fX11_rightOf p1 s0).bind (fun r5 =>
(fX11_toldOf p1 s0).bind (fun r6 =>
(fX11_tellsBy r5.toInt64 r6.toInt64 s0).bind (fun r7 =>
some (r7.1, r7.2)))))))
abbrev rmX11_trust : Room := { frames := 5, cells := 0, slots := 0, locals := 111 }
set_option maxHeartbeats 4000000 in
set_option maxRecDepth 100000 in
theorem kX11_trust (l : Launch) (D : va_G) (cy : Nat → ClassId) (h0 : Nat) (a0 : Nat → Nat) (s0 : Rc) (p1 : Int32) (res : Int32 × Rc) (h : fX11_trust p1 s0 = some res) : CZ l D cy yX11_trust wsX11_trust rmX11_trust [.ref h0, .int p1] (WX11 cy h0 a0 s0) (WX11 cy h0 a0 res.2) res.1 := by
  refine CZ.of (cc := cX11_trust) (maxL := 2) (by decide) rfl (Nat.le_of_ble_eq_true rfl) ?_
  intro p e s m args below meth c A QQ ls E hr
  obtain ⟨hx, hb, hml, hown, hts, hK, hN, hP, hD, hA, hl⟩ := E
  have hret : ∀ (pc : Nat) (H : Heap) (locs : List Loc) (ls : Array Slot) (u : Int32 × Rc), u = res → va_P D vwCl (WX11 cy h0 a0 u.2) H → va_D A (WX11 cy h0 a0 u.2) → va_S A s.heap H locs → isb u.1 = true → decode cX11_trust pc = .ok (.ireturn, 1) → W p l e rmX11_trust s m args below meth c H locs 0 0 QQ (F0 m pc ls [.int u.1]) := by
    intro pc H locs ls u hu hP hD hS hz hd; subst hu; exact hr pc H locs ls _ rfl hP hD hS hz hd
  clear hr
  have hl : lv_has ls 2 [(0, .ref h0), (1, .int p1)] := hl
  unfold fX11_trust at h
  suffices key : ∀ (H : Heap) (locs : List Loc), va_P D vwCl (WX11 cy h0 a0 s0) H → va_S A s.heap H locs → W p l e rmX11_trust s m args below meth c H locs 0 0 QQ (F0 m 0 ls []) from key _ _ hP va_S.rf
  clear hP
  intro H locs hP hS
  refine lv_aload_n hx hb dX11_trust_0 rfl (lv_at hl 0 rfl) ?_
  refine lv_iload_n hx hb dX11_trust_1 rfl (lv_at hl 1 rfl) ?_
  refine ca_z (w' := WX11 cy h0 a0 s0) (rn_V (As := [.int p1]) (rest := []) ⟨hx, hb, hml, hown, hts⟩ (kX11_isFarmer l D cy h0 a0 s0 p1 _ rfl H.size) (cwV 1 hts gX11_trust_X11_isFarmer rfl rfl rfl (by decide +kernel) ⟨Nat.le_of_ble_eq_true rfl, Nat.le_of_ble_eq_true rfl⟩) hK hN hP hD [0, 1, 2, 3, 4, 5, 6, 7, 8, 9, 10, 11, 12, 13] rfl rfl (ci := 11) (q0 := 0) rfl rfl rfl rfl hl.1 rfl (Nat.le_of_ble_eq_true rfl) dX11_trust_2 ⟨Nat.le_refl 0, Nat.le_refl 0⟩) hP hD hS hA [0, 1, 2, 3, 4, 5, 6, 7, 8, 9, 10, 11, 12, 13] ⟨rfl, rfl, rfl, rfl⟩ (fun b1 H locs hP hD hS => ?_)
  refine lv_if_ne (tgt := 14) hx hb dX11_trust_5 (by decide) (fun c2 => ?_) (fun c2 => ?_)
  · replace h := (if_neg c2).symm.trans h
    refine lv_aload_n hx hb dX11_trust_14 rfl (lv_at hl 0 rfl) ?_
    refine lv_iload_n hx hb dX11_trust_15 rfl (lv_at hl 1 rfl) ?_
    obtain ⟨r3, hr3, h⟩ := bd_elim h
    refine ca_i (w' := WX11 cy h0 a0 s0) (rn_V (As := [.int p1]) (rest := []) ⟨hx, hb, hml, hown, hts⟩ (kX11_toldOf l D cy h0 a0 s0 p1 r3 hr3 H.size) (cwV 1 hts gX11_trust_X11_toldOf rfl rfl rfl (by decide +kernel) ⟨Nat.le_of_ble_eq_true rfl, Nat.le_of_ble_eq_true rfl⟩) hK hN hP hD [0, 1, 2, 3, 4, 5, 6, 7, 8, 9, 10, 11, 12, 13] rfl rfl (ci := 11) (q0 := 0) rfl rfl rfl rfl hl.1 rfl (Nat.le_of_ble_eq_true rfl) dX11_trust_16 ⟨Nat.le_refl 0, Nat.le_refl 0⟩) hP hD hS hA [0, 1, 2, 3, 4, 5, 6, 7, 8, 9, 10, 11, 12, 13] ⟨rfl, rfl, rfl, rfl⟩ (fun H locs hP hD hS => ?_)
    refine lv_if_ne (tgt := 31) hx hb dX11_trust_19 (by decide) (fun c4 => ?_) (fun c4 => ?_)
    · replace h := (if_neg c4).symm.trans h
      refine lv_aload_n hx hb dX11_trust_31 rfl (lv_at hl 0 rfl) ?_
      refine lv_aload_n hx hb dX11_trust_32 rfl (lv_at hl 0 rfl) ?_
      refine lv_iload_n hx hb dX11_trust_33 rfl (lv_at hl 1 rfl) ?_
      obtain ⟨r5, hr5, h⟩ := bd_elim h
      refine ca_i (w' := WX11 cy h0 a0 s0) (rn_V (As := [.int p1]) (rest := [.ref h0]) ⟨hx, hb, hml, hown, hts⟩ (kX11_rightOf l D cy h0 a0 s0 p1 r5 hr5 H.size) (cwV 1 hts gX11_trust_X11_rightOf rfl rfl rfl (by decide +kernel) ⟨Nat.le_of_ble_eq_true rfl, Nat.le_of_ble_eq_true rfl⟩) hK hN hP hD [0, 1, 2, 3, 4, 5, 6, 7, 8, 9, 10, 11, 12, 13] rfl rfl (ci := 11) (q0 := 0) rfl rfl rfl rfl hl.1 rfl (Nat.le_of_ble_eq_true rfl) dX11_trust_34 ⟨Nat.le_refl 0, Nat.le_refl 0⟩) hP hD hS hA [0, 1, 2, 3, 4, 5, 6, 7, 8, 9, 10, 11, 12, 13] ⟨rfl, rfl, rfl, rfl⟩ (fun H locs hP hD hS => ?_)
      refine lv_i2l hx hb dX11_trust_37 rfl ?_
      refine lv_aload_n hx hb dX11_trust_38 rfl (lv_at hl 0 rfl) ?_
      refine lv_iload_n hx hb dX11_trust_39 rfl (lv_at hl 1 rfl) ?_
      obtain ⟨r6, hr6, h⟩ := bd_elim h
      refine ca_i (w' := WX11 cy h0 a0 s0) (rn_V (As := [.int p1]) (rest := [.long r5.toInt64, .ref h0]) ⟨hx, hb, hml, hown, hts⟩ (kX11_toldOf l D cy h0 a0 s0 p1 r6 hr6 H.size) (cwV 1 hts gX11_trust_X11_toldOf rfl rfl rfl (by decide +kernel) ⟨Nat.le_of_ble_eq_true rfl, Nat.le_of_ble_eq_true rfl⟩) hK hN hP hD [0, 1, 2, 3, 4, 5, 6, 7, 8, 9, 10, 11, 12, 13] rfl rfl (ci := 11) (q0 := 0) rfl rfl rfl rfl hl.1 rfl (Nat.le_of_ble_eq_true rfl) dX11_trust_40 ⟨Nat.le_refl 0, Nat.le_refl 0⟩) hP hD hS hA [0, 1, 2, 3, 4, 5, 6, 7, 8, 9, 10, 11, 12, 13] ⟨rfl, rfl, rfl, rfl⟩ (fun H locs hP hD hS => ?_)
      refine lv_i2l hx hb dX11_trust_43 rfl ?_
      obtain ⟨r7, hr7, h⟩ := bd_elim h
      refine ca_z (w' := WX11 cy h0 a0 r7.2) (rn_V (As := [.long r5.toInt64, .long r6.toInt64]) (rest := []) ⟨hx, hb, hml, hown, hts⟩ (kX11_tellsBy l D cy h0 a0 s0 r5.toInt64 r6.toInt64 r7 hr7 H.size) (cwV 2 hts gX11_trust_X11_tellsBy rfl rfl rfl (by decide +kernel) ⟨Nat.le_of_ble_eq_true rfl, Nat.le_of_ble_eq_true rfl⟩) hK hN hP hD [0, 1, 2, 3, 4, 5, 6, 7, 8, 9, 10, 11, 12, 13] rfl rfl (ci := 11) (q0 := 0) rfl rfl rfl rfl hl.1 rfl (Nat.le_of_ble_eq_true rfl) dX11_trust_44 ⟨Nat.le_refl 0, Nat.le_refl 0⟩) hP hD hS hA [0, 1, 2, 3, 4, 5, 6, 7, 8, 9, 10, 11, 12, 13] ⟨rfl, rfl, rfl, rfl⟩ (fun b8 H locs hP hD hS => ?_)
      exact hret 47 H locs ls (r7.1, r7.2) (Option.some.inj h) hP hD hS b8 dX11_trust_47
    · replace h := (if_pos c4).symm.trans h
      refine lv_aload_n hx hb dX11_trust_22 rfl (lv_at hl 0 rfl) ?_
      refine lv_bipush (v := 6) hx hb dX11_trust_23 (by decide) ?_
      obtain ⟨r9, hr9, h⟩ := lt_elim h
      refine ca_z (w' := WX11 cy h0 a0 r9.2) (rn_V (As := [.int (6 : Int32)]) (rest := []) ⟨hx, hb, hml, hown, hts⟩ (kX11_is l D cy h0 a0 s0 (6 : Int32) r9 hr9.symm H.size) (cwV 1 hts gX11_trust_X11_is rfl rfl rfl (by decide +kernel) ⟨Nat.le_of_ble_eq_true rfl, Nat.le_of_ble_eq_true rfl⟩) hK hN hP hD [0, 1, 2, 3, 4, 5, 6, 7, 8, 9, 10, 11, 12, 13] rfl rfl (ci := 11) (q0 := 0) rfl rfl rfl rfl hl.1 rfl (Nat.le_of_ble_eq_true rfl) dX11_trust_25 ⟨Nat.le_refl 0, Nat.le_refl 0⟩) hP hD hS hA [0, 1, 2, 3, 4, 5, 6, 7, 8, 9, 10, 11, 12, 13] ⟨rfl, rfl, rfl, rfl⟩ (fun b10 H locs hP hD hS => ?_)
      refine lv_goto (tgt := 47) hx hb dX11_trust_28 (by decide) ?_
      exact hret 47 H locs ls (r9.1, r9.2) (Option.some.inj h) hP hD hS b10 dX11_trust_47
  · replace h := (if_pos c2).symm.trans h
    refine lv_aload_n hx hb dX11_trust_8 rfl (lv_at hl 0 rfl) ?_
    refine lv_iconst (v := 1) hx hb dX11_trust_9 (by decide) ?_
    obtain ⟨r11, hr11, h⟩ := lt_elim h
    refine ca_z (w' := WX11 cy h0 a0 r11.2) (rn_V (As := [.int (1 : Int32)]) (rest := []) ⟨hx, hb, hml, hown, hts⟩ (kX11_is l D cy h0 a0 s0 (1 : Int32) r11 hr11.symm H.size) (cwV 1 hts gX11_trust_X11_is rfl rfl rfl (by decide +kernel) ⟨Nat.le_of_ble_eq_true rfl, Nat.le_of_ble_eq_true rfl⟩) hK hN hP hD [0, 1, 2, 3, 4, 5, 6, 7, 8, 9, 10, 11, 12, 13] rfl rfl (ci := 11) (q0 := 0) rfl rfl rfl rfl hl.1 rfl (Nat.le_of_ble_eq_true rfl) dX11_trust_10 ⟨Nat.le_refl 0, Nat.le_refl 0⟩) hP hD hS hA [0, 1, 2, 3, 4, 5, 6, 7, 8, 9, 10, 11, 12, 13] ⟨rfl, rfl, rfl, rfl⟩ (fun b12 H locs hP hD hS => ?_)
    exact hret 13 H locs ls (r11.1, r11.2) (Option.some.inj h) hP hD hS b12 dX11_trust_13
set_option maxRecDepth 20000 in
theorem ggX11_twinge_X11_isIn : GoodIn wsX11_twinge wsX11_isIn := goodIn_r _ [6, 7, 8, 9, 5, 10, 1, 11, 12, 13, 14, 23, 24, 25, 26, 27, 28, 29, 30, 31, 32, 33, 34, 35, 36, 37, 38, 39, 40, 41, 42, 43, 44, 45, 46, 47, 48, 49, 50, 51, 52, 53, 54, 55, 56, 57, 58, 59, 60] (by decide +kernel) (by decide +kernel)
set_option maxRecDepth 20000 in
theorem gX11_twinge_X11_isIn : GoodIn wsX11_twinge (wsV RX11 270 RX11 yX11_isIn wsX11_isIn) := goodIn_app (goodIn_of _ (by decide +kernel)) ggX11_twinge_X11_isIn
set_option maxRecDepth 20000 in
theorem ggX11_twinge_X11_is : GoodIn wsX11_twinge wsX11_is := goodIn_r _ [18, 19, 23, 24, 25, 26, 27, 28, 29, 30, 31, 32, 33, 34, 35, 36, 37, 38, 39, 40, 41, 42, 43, 44, 45, 46, 47, 48, 49, 50, 51, 52, 53, 54, 55, 56, 57, 58, 59, 60] (by decide +kernel) (by decide +kernel)
set_option maxRecDepth 20000 in
theorem gX11_twinge_X11_is : GoodIn wsX11_twinge (wsV RX11 82 RX11 yX11_is wsX11_is) := goodIn_app (goodIn_of _ (by decide +kernel)) ggX11_twinge_X11_is
set_option maxRecDepth 20000 in
theorem ggX11_twinge_X11_twingeRow : GoodIn wsX11_twinge wsX11_twingeRow := goodIn_r _ [22] (by decide +kernel) (by decide +kernel)
set_option maxRecDepth 20000 in
theorem gX11_twinge_X11_twingeRow : GoodIn wsX11_twinge (va_wsS RX11 225 yX11_twingeRow wsX11_twingeRow) := goodIn_app (goodIn_of _ (by decide +kernel)) ggX11_twinge_X11_twingeRow
theorem dX11_twinge_0 : decode cX11_twinge 0 = .ok (.aload_n 0, 1) := by decide +kernel
theorem dX11_twinge_1 : decode cX11_twinge 1 = .ok (.iload_n 1, 1) := by decide +kernel
theorem dX11_twinge_2 : decode cX11_twinge 2 = .ok (.iload_n 2, 1) := by decide +kernel
theorem dX11_twinge_3 : decode cX11_twinge 3 = .ok (.invokevirtual 270, 3) := by decide +kernel
theorem dX11_twinge_6 : decode cX11_twinge 6 = .ok (.ifCond .ne 9, 3) := by decide +kernel
theorem dX11_twinge_9 : decode cX11_twinge 9 = .ok (.aload_n 0, 1) := by decide +kernel
theorem dX11_twinge_10 : decode cX11_twinge 10 = .ok (.iconst 1, 1) := by decide +kernel
theorem dX11_twinge_11 : decode cX11_twinge 11 = .ok (.invokevirtual 82, 3) := by decide +kernel
theorem dX11_twinge_14 : decode cX11_twinge 14 = .ok (.ireturn, 1) := by decide +kernel
theorem dX11_twinge_15 : decode cX11_twinge 15 = .ok (.aload_n 0, 1) := by decide +kernel
theorem dX11_twinge_16 : decode cX11_twinge 16 = .ok (.getfield 7, 3) := by decide +kernel
theorem dX11_twinge_19 : decode cX11_twinge 19 = .ok (.iload_n 1, 1) := by decide +kernel
theorem dX11_twinge_20 : decode cX11_twinge 20 = .ok (.iload_n 2, 1) := by decide +kernel
theorem dX11_twinge_21 : decode cX11_twinge 21 = .ok (.invokestatic 225, 3) := by decide +kernel
theorem dX11_twinge_24 : decode cX11_twinge 24 = .ok (.iload_n 3, 1) := by decide +kernel
theorem dX11_twinge_25 : decode cX11_twinge 25 = .ok (.ifCond .eq 7, 3) := by decide +kernel
theorem dX11_twinge_28 : decode cX11_twinge 28 = .ok (.iconst 1, 1) := by decide +kernel
theorem dX11_twinge_29 : decode cX11_twinge 29 = .ok (.goto 4, 3) := by decide +kernel
theorem dX11_twinge_32 : decode cX11_twinge 32 = .ok (.iconst 0, 1) := by decide +kernel
theorem dX11_twinge_33 : decode cX11_twinge 33 = .ok (.iastore, 1) := by decide +kernel
theorem dX11_twinge_34 : decode cX11_twinge 34 = .ok (.aload_n 0, 1) := by decide +kernel
theorem dX11_twinge_35 : decode cX11_twinge 35 = .ok (.iconst 0, 1) := by decide +kernel
theorem dX11_twinge_36 : decode cX11_twinge 36 = .ok (.invokevirtual 82, 3) := by decide +kernel
theorem dX11_twinge_39 : decode cX11_twinge 39 = .ok (.ireturn, 1) := by decide +kernel
noncomputable def fX11_twinge (p1 : Int32) (p2 : Int32) (p3 : Int32) (s0 : Rc) : Option (Int32 × Rc) :=
if (fX11_isIn p1 p2 s0) = (0 : Int32) then (
lt_ (fX11_is (1 : Int32) s0) (fun r12 =>
some (r12.1, r12.2))) else (
if p3 = (0 : Int32) then (
gd (inb (fX11_twingeRow p1 p2) 6240) (
lt_ (sa s0 0 (upd (ga s0 0) (fX11_twingeRow p1 p2).toNatClampNeg (0 : Int32))) (fun s0_5 =>
lt_ (fX11_is (0 : Int32) s0_5) (fun r6 =>
some (r6.1, r6.2))))) else (
gd (inb (fX11_twingeRow p1 p2) 6240) (
lt_ (sa s0 0 (upd (ga s0 0) (fX11_twingeRow p1 p2).toNatClampNeg (1 : Int32))) (fun s0_9 =>
lt_ (fX11_is (0 : Int32) s0_9) (fun r10 =>
some (r10.1, r10.2))))))
abbrev rmX11_twinge : Room := { frames := 2, cells := 0, slots := 0, locals := 43 }
set_option maxHeartbeats 4000000 in
set_option maxRecDepth 100000 in
theorem kX11_twinge (l : Launch) (D : va_G) (cy : Nat → ClassId) (h0 : Nat) (a0 : Nat → Nat) (s0 : Rc) (p1 : Int32) (p2 : Int32) (p3 : Int32) (res : Int32 × Rc) (h : fX11_twinge p1 p2 p3 s0 = some res) : CZ l D cy yX11_twinge wsX11_twinge rmX11_twinge [.ref h0, .int p1, .int p2, .int p3] (WX11 cy h0 a0 s0) (WX11 cy h0 a0 res.2) res.1 := by
  refine CZ.of (cc := cX11_twinge) (maxL := 4) (by decide) rfl (Nat.le_of_ble_eq_true rfl) ?_
  intro p e s m args below meth c A QQ ls E hr
  obtain ⟨hx, hb, hml, hown, hts, hK, hN, hP, hD, hA, hl⟩ := E
  have hret : ∀ (pc : Nat) (H : Heap) (locs : List Loc) (ls : Array Slot) (u : Int32 × Rc), u = res → va_P D vwCl (WX11 cy h0 a0 u.2) H → va_D A (WX11 cy h0 a0 u.2) → va_S A s.heap H locs → isb u.1 = true → decode cX11_twinge pc = .ok (.ireturn, 1) → W p l e rmX11_twinge s m args below meth c H locs 0 0 QQ (F0 m pc ls [.int u.1]) := by
    intro pc H locs ls u hu hP hD hS hz hd; subst hu; exact hr pc H locs ls _ rfl hP hD hS hz hd
  clear hr
  have hl : lv_has ls 4 [(0, .ref h0), (1, .int p1), (2, .int p2), (3, .int p3)] := hl
  have hinX11 : ∀ w ∈ wsX110, w ∈ wsX11_twinge := fun _ h => List.mem_cons_of_mem _ (List.mem_append_right _ h)
  unfold fX11_twinge at h
  suffices key : ∀ (H : Heap) (locs : List Loc), va_P D vwCl (WX11 cy h0 a0 s0) H → va_S A s.heap H locs → W p l e rmX11_twinge s m args below meth c H locs 0 0 QQ (F0 m 0 ls []) from key _ _ hP va_S.rf
  clear hP
  intro H locs hP hS
  refine lv_aload_n hx hb dX11_twinge_0 rfl (lv_at hl 0 rfl) ?_
  refine lv_iload_n hx hb dX11_twinge_1 rfl (lv_at hl 1 rfl) ?_
  refine lv_iload_n hx hb dX11_twinge_2 rfl (lv_at hl 2 rfl) ?_
  refine ca_z (w' := WX11 cy h0 a0 s0) (rn_V (As := [.int p1, .int p2]) (rest := []) ⟨hx, hb, hml, hown, hts⟩ (kX11_isIn l D cy h0 a0 s0 p1 p2 _ rfl H.size) (cwV 2 hts gX11_twinge_X11_isIn rfl rfl rfl (by decide +kernel) ⟨Nat.le_of_ble_eq_true rfl, Nat.le_of_ble_eq_true rfl⟩) hK hN hP hD [0, 1, 2, 3, 4, 5, 6, 7, 8, 9, 10, 11, 12, 13] rfl rfl (ci := 11) (q0 := 0) rfl rfl rfl rfl hl.1 rfl (Nat.le_of_ble_eq_true rfl) dX11_twinge_3 ⟨Nat.le_refl 0, Nat.le_refl 0⟩) hP hD hS hA [0, 1, 2, 3, 4, 5, 6, 7, 8, 9, 10, 11, 12, 13] ⟨rfl, rfl, rfl, rfl⟩ (fun b1 H locs hP hD hS => ?_)
  refine lv_if_ne (tgt := 15) hx hb dX11_twinge_6 (by decide) (fun c2 => ?_) (fun c2 => ?_)
  · replace h := (if_neg c2).symm.trans h
    refine lv_aload_n hx hb dX11_twinge_15 rfl (lv_at hl 0 rfl) ?_
    refine va_get (D := D) (ci := 11) (v := .ref (a0 0)) (C := RX11) (T := TX11) (N := 38) hx hb hts hinX11 hown hK hP 0 rfl rfl 0 (by decide) (hts (.fieldLink RX11 7 "KneeBenchModel" "at" "[I") (List.mem_of_getElem? (i := 1) rfl)) (fun _ h9 => h9) rfl dX11_twinge_16 ?_
    refine lv_iload_n hx hb dX11_twinge_19 rfl (lv_at hl 1 rfl) ?_
    refine lv_iload_n hx hb dX11_twinge_20 rfl (lv_at hl 2 rfl) ?_
    refine ca_i (w' := WX11 cy h0 a0 s0) (rn_S (As := [.int p1, .int p2]) (rest := [.ref (a0 0)]) ⟨hx, hb, hml, hown, hts⟩ (kX11_twingeRow l D cy p1 p2 _ rfl H.size) (va_cwS 2 hts gX11_twinge_X11_twingeRow rfl rfl rfl (by decide +kernel) ⟨Nat.le_of_ble_eq_true rfl, Nat.le_of_ble_eq_true rfl⟩) hK hN hP hD [] rfl rfl rfl hl.1 rfl (Nat.le_of_ble_eq_true rfl) dX11_twinge_21 ⟨Nat.le_refl 0, Nat.le_refl 0⟩) hP hD hS hA [] ⟨rfl, rfl, rfl, rfl⟩ (fun H locs hP hD hS => ?_)
    refine lv_iload_n hx hb dX11_twinge_24 rfl (lv_at hl 3 rfl) ?_
    refine lv_if_eq (tgt := 32) hx hb dX11_twinge_25 (by decide) (fun c3 => ?_) (fun c3 => ?_)
    · replace h := (if_pos c3).symm.trans h
      refine lv_iconst (v := 0) hx hb dX11_twinge_32 (by decide) ?_
      obtain ⟨g4, h⟩ := gd_elim h
      obtain ⟨s0_5, es, h⟩ := lt_elim h
      refine va_iast hx hb hK hP hD hS 1 1 rfl rfl (inb_in g4) dX11_twinge_33 (fun H locs hP hD hS => ?_)
      have hP : va_P D vwCl (WX11 cy h0 a0 s0_5) H := by rw [es]; exact hP
      have hD : va_D A (WX11 cy h0 a0 s0_5) := by rw [es]; exact hD
      clear es
      refine lv_aload_n hx hb dX11_twinge_34 rfl (lv_at hl 0 rfl) ?_
      refine lv_iconst (v := 0) hx hb dX11_twinge_35 (by decide) ?_
      obtain ⟨r6, hr6, h⟩ := lt_elim h
      refine ca_z (w' := WX11 cy h0 a0 r6.2) (rn_V (As := [.int (0 : Int32)]) (rest := []) ⟨hx, hb, hml, hown, hts⟩ (kX11_is l D cy h0 a0 s0_5 (0 : Int32) r6 hr6.symm H.size) (cwV 1 hts gX11_twinge_X11_is rfl rfl rfl (by decide +kernel) ⟨Nat.le_of_ble_eq_true rfl, Nat.le_of_ble_eq_true rfl⟩) hK hN hP hD [0, 1, 2, 3, 4, 5, 6, 7, 8, 9, 10, 11, 12, 13] rfl rfl (ci := 11) (q0 := 0) rfl rfl rfl rfl hl.1 rfl (Nat.le_of_ble_eq_true rfl) dX11_twinge_36 ⟨Nat.le_refl 0, Nat.le_refl 0⟩) hP hD hS hA [0, 1, 2, 3, 4, 5, 6, 7, 8, 9, 10, 11, 12, 13] ⟨rfl, rfl, rfl, rfl⟩ (fun b7 H locs hP hD hS => ?_)
      exact hret 39 H locs ls (r6.1, r6.2) (Option.some.inj h) hP hD hS b7 dX11_twinge_39
    · replace h := (if_neg c3).symm.trans h
      refine lv_iconst (v := 1) hx hb dX11_twinge_28 (by decide) ?_
      refine lv_goto (tgt := 33) hx hb dX11_twinge_29 (by decide) ?_
      obtain ⟨g8, h⟩ := gd_elim h
      obtain ⟨s0_9, es, h⟩ := lt_elim h
      refine va_iast hx hb hK hP hD hS 1 1 rfl rfl (inb_in g8) dX11_twinge_33 (fun H locs hP hD hS => ?_)
      have hP : va_P D vwCl (WX11 cy h0 a0 s0_9) H := by rw [es]; exact hP
      have hD : va_D A (WX11 cy h0 a0 s0_9) := by rw [es]; exact hD
      clear es
      refine lv_aload_n hx hb dX11_twinge_34 rfl (lv_at hl 0 rfl) ?_
      refine lv_iconst (v := 0) hx hb dX11_twinge_35 (by decide) ?_
      obtain ⟨r10, hr10, h⟩ := lt_elim h
      refine ca_z (w' := WX11 cy h0 a0 r10.2) (rn_V (As := [.int (0 : Int32)]) (rest := []) ⟨hx, hb, hml, hown, hts⟩ (kX11_is l D cy h0 a0 s0_9 (0 : Int32) r10 hr10.symm H.size) (cwV 1 hts gX11_twinge_X11_is rfl rfl rfl (by decide +kernel) ⟨Nat.le_of_ble_eq_true rfl, Nat.le_of_ble_eq_true rfl⟩) hK hN hP hD [0, 1, 2, 3, 4, 5, 6, 7, 8, 9, 10, 11, 12, 13] rfl rfl (ci := 11) (q0 := 0) rfl rfl rfl rfl hl.1 rfl (Nat.le_of_ble_eq_true rfl) dX11_twinge_36 ⟨Nat.le_refl 0, Nat.le_refl 0⟩) hP hD hS hA [0, 1, 2, 3, 4, 5, 6, 7, 8, 9, 10, 11, 12, 13] ⟨rfl, rfl, rfl, rfl⟩ (fun b11 H locs hP hD hS => ?_)
      exact hret 39 H locs ls (r10.1, r10.2) (Option.some.inj h) hP hD hS b11 dX11_twinge_39
  · replace h := (if_pos c2).symm.trans h
    refine lv_aload_n hx hb dX11_twinge_9 rfl (lv_at hl 0 rfl) ?_
    refine lv_iconst (v := 1) hx hb dX11_twinge_10 (by decide) ?_
    obtain ⟨r12, hr12, h⟩ := lt_elim h
    refine ca_z (w' := WX11 cy h0 a0 r12.2) (rn_V (As := [.int (1 : Int32)]) (rest := []) ⟨hx, hb, hml, hown, hts⟩ (kX11_is l D cy h0 a0 s0 (1 : Int32) r12 hr12.symm H.size) (cwV 1 hts gX11_twinge_X11_is rfl rfl rfl (by decide +kernel) ⟨Nat.le_of_ble_eq_true rfl, Nat.le_of_ble_eq_true rfl⟩) hK hN hP hD [0, 1, 2, 3, 4, 5, 6, 7, 8, 9, 10, 11, 12, 13] rfl rfl (ci := 11) (q0 := 0) rfl rfl rfl rfl hl.1 rfl (Nat.le_of_ble_eq_true rfl) dX11_twinge_11 ⟨Nat.le_refl 0, Nat.le_refl 0⟩) hP hD hS hA [0, 1, 2, 3, 4, 5, 6, 7, 8, 9, 10, 11, 12, 13] ⟨rfl, rfl, rfl, rfl⟩ (fun b13 H locs hP hD hS => ?_)
    exact hret 14 H locs ls (r12.1, r12.2) (Option.some.inj h) hP hD hS b13 dX11_twinge_14
set_option maxRecDepth 20000 in
theorem ggX11_twinges_X11_isIn : GoodIn wsX11_twinges wsX11_isIn := goodIn_r _ [6, 7, 8, 9, 5, 10, 1, 11, 12, 13, 14, 27, 28, 29, 30, 31, 32, 33, 34, 35, 36, 37, 38, 39, 40, 41, 42, 43, 44, 45, 46, 47, 48, 49, 50, 51, 52, 53, 54, 55, 56, 57, 58, 59, 60, 61, 62, 63, 64] (by decide +kernel) (by decide +kernel)
set_option maxRecDepth 20000 in
theorem gX11_twinges_X11_isIn : GoodIn wsX11_twinges (wsV RX11 270 RX11 yX11_isIn wsX11_isIn) := goodIn_app (goodIn_of _ (by decide +kernel)) ggX11_twinges_X11_isIn
set_option maxRecDepth 20000 in
theorem ggX11_twinges_X11_twingeRow : GoodIn wsX11_twinges wsX11_twingeRow := goodIn_r _ [17] (by decide +kernel) (by decide +kernel)
set_option maxRecDepth 20000 in
theorem gX11_twinges_X11_twingeRow : GoodIn wsX11_twinges (va_wsS RX11 225 yX11_twingeRow wsX11_twingeRow) := goodIn_app (goodIn_of _ (by decide +kernel)) ggX11_twinges_X11_twingeRow
set_option maxRecDepth 20000 in
theorem ggX11_twinges_X11_gives : GoodIn wsX11_twinges wsX11_gives := goodIn_r _ [21, 22, 27, 28, 29, 30, 31, 32, 33, 34, 35, 36, 37, 38, 39, 40, 41, 42, 43, 44, 45, 46, 47, 48, 49, 50, 51, 52, 53, 54, 55, 56, 57, 58, 59, 60, 61, 62, 63, 64] (by decide +kernel) (by decide +kernel)
set_option maxRecDepth 20000 in
theorem gX11_twinges_X11_gives : GoodIn wsX11_twinges (wsV RX11 79 RX11 yX11_gives wsX11_gives) := goodIn_app (goodIn_of _ (by decide +kernel)) ggX11_twinges_X11_gives
set_option maxRecDepth 20000 in
theorem ggX11_twinges_X11_refuse : GoodIn wsX11_twinges wsX11_refuse := goodIn_r _ [26, 22, 27, 28, 29, 30, 31, 32, 33, 34, 35, 36, 37, 38, 39, 40, 41, 42, 43, 44, 45, 46, 47, 48, 49, 50, 51, 52, 53, 54, 55, 56, 57, 58, 59, 60, 61, 62, 63, 64] (by decide +kernel) (by decide +kernel)
set_option maxRecDepth 20000 in
theorem gX11_twinges_X11_refuse : GoodIn wsX11_twinges (wsV RX11 75 RX11 yX11_refuse wsX11_refuse) := goodIn_app (goodIn_of _ (by decide +kernel)) ggX11_twinges_X11_refuse
theorem dX11_twinges_0 : decode cX11_twinges 0 = .ok (.aload_n 0, 1) := by decide +kernel
theorem dX11_twinges_1 : decode cX11_twinges 1 = .ok (.iload_n 1, 1) := by decide +kernel
theorem dX11_twinges_2 : decode cX11_twinges 2 = .ok (.iload_n 2, 1) := by decide +kernel
theorem dX11_twinges_3 : decode cX11_twinges 3 = .ok (.invokevirtual 270, 3) := by decide +kernel
theorem dX11_twinges_6 : decode cX11_twinges 6 = .ok (.ifCond .eq 20, 3) := by decide +kernel
theorem dX11_twinges_9 : decode cX11_twinges 9 = .ok (.aload_n 0, 1) := by decide +kernel
theorem dX11_twinges_10 : decode cX11_twinges 10 = .ok (.aload_n 0, 1) := by decide +kernel
theorem dX11_twinges_11 : decode cX11_twinges 11 = .ok (.getfield 7, 3) := by decide +kernel
theorem dX11_twinges_14 : decode cX11_twinges 14 = .ok (.iload_n 1, 1) := by decide +kernel
theorem dX11_twinges_15 : decode cX11_twinges 15 = .ok (.iload_n 2, 1) := by decide +kernel
theorem dX11_twinges_16 : decode cX11_twinges 16 = .ok (.invokestatic 225, 3) := by decide +kernel
theorem dX11_twinges_19 : decode cX11_twinges 19 = .ok (.iaload, 1) := by decide +kernel
theorem dX11_twinges_20 : decode cX11_twinges 20 = .ok (.invokevirtual 79, 3) := by decide +kernel
theorem dX11_twinges_23 : decode cX11_twinges 23 = .ok (.goto 8, 3) := by decide +kernel
theorem dX11_twinges_26 : decode cX11_twinges 26 = .ok (.aload_n 0, 1) := by decide +kernel
theorem dX11_twinges_27 : decode cX11_twinges 27 = .ok (.iconst 1, 1) := by decide +kernel
theorem dX11_twinges_28 : decode cX11_twinges 28 = .ok (.invokevirtual 75, 3) := by decide +kernel
theorem dX11_twinges_31 : decode cX11_twinges 31 = .ok (.ireturn, 1) := by decide +kernel
noncomputable def fX11_twinges (p1 : Int32) (p2 : Int32) (s0 : Rc) : Option (Int32 × Rc) :=
if (fX11_isIn p1 p2 s0) = (0 : Int32) then (
lt_ (fX11_refuse (1 : Int32) s0) (fun r3 =>
some (r3.1, r3.2))) else (
gd (inb (fX11_twingeRow p1 p2) 6240) (
lt_ (fX11_gives (ga s0 0 (fX11_twingeRow p1 p2).toNatClampNeg) s0) (fun r5 =>
some (r5.1, r5.2))))
abbrev rmX11_twinges : Room := { frames := 2, cells := 0, slots := 0, locals := 43 }
set_option maxHeartbeats 4000000 in
set_option maxRecDepth 100000 in
theorem kX11_twinges (l : Launch) (D : va_G) (cy : Nat → ClassId) (h0 : Nat) (a0 : Nat → Nat) (s0 : Rc) (p1 : Int32) (p2 : Int32) (res : Int32 × Rc) (h : fX11_twinges p1 p2 s0 = some res) : CI l D cy yX11_twinges wsX11_twinges rmX11_twinges [.ref h0, .int p1, .int p2] (WX11 cy h0 a0 s0) (WX11 cy h0 a0 res.2) res.1 := by
  refine CI.of (cc := cX11_twinges) (maxL := 3) (by decide) rfl (Nat.le_of_ble_eq_true rfl) ?_
  intro p e s m args below meth c A QQ ls E hr
  obtain ⟨hx, hb, hml, hown, hts, hK, hN, hP, hD, hA, hl⟩ := E
  have hret : ∀ (pc : Nat) (H : Heap) (locs : List Loc) (ls : Array Slot) (u : Int32 × Rc), u = res → va_P D vwCl (WX11 cy h0 a0 u.2) H → va_D A (WX11 cy h0 a0 u.2) → va_S A s.heap H locs → decode cX11_twinges pc = .ok (.ireturn, 1) → W p l e rmX11_twinges s m args below meth c H locs 0 0 QQ (F0 m pc ls [.int u.1]) := by
    intro pc H locs ls u hu hP hD hS hd; subst hu; exact hr pc H locs ls _ rfl hP hD hS hd
  clear hr
  have hl : lv_has ls 3 [(0, .ref h0), (1, .int p1), (2, .int p2)] := hl
  have hinX11 : ∀ w ∈ wsX110, w ∈ wsX11_twinges := fun _ h => List.mem_cons_of_mem _ (List.mem_append_right _ h)
  unfold fX11_twinges at h
  suffices key : ∀ (H : Heap) (locs : List Loc), va_P D vwCl (WX11 cy h0 a0 s0) H → va_S A s.heap H locs → W p l e rmX11_twinges s m args below meth c H locs 0 0 QQ (F0 m 0 ls []) from key _ _ hP va_S.rf
  clear hP
  intro H locs hP hS
  refine lv_aload_n hx hb dX11_twinges_0 rfl (lv_at hl 0 rfl) ?_
  refine lv_iload_n hx hb dX11_twinges_1 rfl (lv_at hl 1 rfl) ?_
  refine lv_iload_n hx hb dX11_twinges_2 rfl (lv_at hl 2 rfl) ?_
  refine ca_z (w' := WX11 cy h0 a0 s0) (rn_V (As := [.int p1, .int p2]) (rest := []) ⟨hx, hb, hml, hown, hts⟩ (kX11_isIn l D cy h0 a0 s0 p1 p2 _ rfl H.size) (cwV 2 hts gX11_twinges_X11_isIn rfl rfl rfl (by decide +kernel) ⟨Nat.le_of_ble_eq_true rfl, Nat.le_of_ble_eq_true rfl⟩) hK hN hP hD [0, 1, 2, 3, 4, 5, 6, 7, 8, 9, 10, 11, 12, 13] rfl rfl (ci := 11) (q0 := 0) rfl rfl rfl rfl hl.1 rfl (Nat.le_of_ble_eq_true rfl) dX11_twinges_3 ⟨Nat.le_refl 0, Nat.le_refl 0⟩) hP hD hS hA [0, 1, 2, 3, 4, 5, 6, 7, 8, 9, 10, 11, 12, 13] ⟨rfl, rfl, rfl, rfl⟩ (fun b1 H locs hP hD hS => ?_)
  refine lv_if_eq (tgt := 26) hx hb dX11_twinges_6 (by decide) (fun c2 => ?_) (fun c2 => ?_)
  · replace h := (if_pos c2).symm.trans h
    refine lv_aload_n hx hb dX11_twinges_26 rfl (lv_at hl 0 rfl) ?_
    refine lv_iconst (v := 1) hx hb dX11_twinges_27 (by decide) ?_
    obtain ⟨r3, hr3, h⟩ := lt_elim h
    refine ca_i (w' := WX11 cy h0 a0 r3.2) (rn_V (As := [.int (1 : Int32)]) (rest := []) ⟨hx, hb, hml, hown, hts⟩ (kX11_refuse l D cy h0 a0 s0 (1 : Int32) r3 hr3.symm H.size) (cwV 1 hts gX11_twinges_X11_refuse rfl rfl rfl (by decide +kernel) ⟨Nat.le_of_ble_eq_true rfl, Nat.le_of_ble_eq_true rfl⟩) hK hN hP hD [0, 1, 2, 3, 4, 5, 6, 7, 8, 9, 10, 11, 12, 13] rfl rfl (ci := 11) (q0 := 0) rfl rfl rfl rfl hl.1 rfl (Nat.le_of_ble_eq_true rfl) dX11_twinges_28 ⟨Nat.le_refl 0, Nat.le_refl 0⟩) hP hD hS hA [0, 1, 2, 3, 4, 5, 6, 7, 8, 9, 10, 11, 12, 13] ⟨rfl, rfl, rfl, rfl⟩ (fun H locs hP hD hS => ?_)
    exact hret 31 H locs ls (r3.1, r3.2) (Option.some.inj h) hP hD hS dX11_twinges_31
  · replace h := (if_neg c2).symm.trans h
    refine lv_aload_n hx hb dX11_twinges_9 rfl (lv_at hl 0 rfl) ?_
    refine lv_aload_n hx hb dX11_twinges_10 rfl (lv_at hl 0 rfl) ?_
    refine va_get (D := D) (ci := 11) (v := .ref (a0 0)) (C := RX11) (T := TX11) (N := 38) hx hb hts hinX11 hown hK hP 0 rfl rfl 0 (by decide) (hts (.fieldLink RX11 7 "KneeBenchModel" "at" "[I") (List.mem_of_getElem? (i := 1) rfl)) (fun _ h9 => h9) rfl dX11_twinges_11 ?_
    refine lv_iload_n hx hb dX11_twinges_14 rfl (lv_at hl 1 rfl) ?_
    refine lv_iload_n hx hb dX11_twinges_15 rfl (lv_at hl 2 rfl) ?_
    refine ca_i (w' := WX11 cy h0 a0 s0) (rn_S (As := [.int p1, .int p2]) (rest := [.ref (a0 0), .ref h0]) ⟨hx, hb, hml, hown, hts⟩ (kX11_twingeRow l D cy p1 p2 _ rfl H.size) (va_cwS 2 hts gX11_twinges_X11_twingeRow rfl rfl rfl (by decide +kernel) ⟨Nat.le_of_ble_eq_true rfl, Nat.le_of_ble_eq_true rfl⟩) hK hN hP hD [] rfl rfl rfl hl.1 rfl (Nat.le_of_ble_eq_true rfl) dX11_twinges_16 ⟨Nat.le_refl 0, Nat.le_refl 0⟩) hP hD hS hA [] ⟨rfl, rfl, rfl, rfl⟩ (fun H locs hP hD hS => ?_)
    obtain ⟨g4, h⟩ := gd_elim h
    refine va_iald hx hb hK hP 1 1 rfl rfl (inb_in g4) dX11_twinges_19 ?_
    obtain ⟨r5, hr5, h⟩ := lt_elim h
    refine ca_i (w' := WX11 cy h0 a0 r5.2) (rn_V (As := [.int (ga s0 0 (fX11_twingeRow p1 p2).toNatClampNeg)]) (rest := []) ⟨hx, hb, hml, hown, hts⟩ (kX11_gives l D cy h0 a0 s0 (ga s0 0 (fX11_twingeRow p1 p2).toNatClampNeg) r5 hr5.symm H.size) (cwV 1 hts gX11_twinges_X11_gives rfl rfl rfl (by decide +kernel) ⟨Nat.le_of_ble_eq_true rfl, Nat.le_of_ble_eq_true rfl⟩) hK hN hP hD [0, 1, 2, 3, 4, 5, 6, 7, 8, 9, 10, 11, 12, 13] rfl rfl (ci := 11) (q0 := 0) rfl rfl rfl rfl hl.1 rfl (Nat.le_of_ble_eq_true rfl) dX11_twinges_20 ⟨Nat.le_refl 0, Nat.le_refl 0⟩) hP hD hS hA [0, 1, 2, 3, 4, 5, 6, 7, 8, 9, 10, 11, 12, 13] ⟨rfl, rfl, rfl, rfl⟩ (fun H locs hP hD hS => ?_)
    refine lv_goto (tgt := 31) hx hb dX11_twinges_23 (by decide) ?_
    exact hret 31 H locs ls (r5.1, r5.2) (Option.some.inj h) hP hD hS dX11_twinges_31
set_option maxRecDepth 20000 in
theorem ggX11_useful_X11_isFarmer : GoodIn wsX11_useful wsX11_isFarmer := goodIn_r _ [6, 7, 52, 53, 54, 55, 56, 57, 58, 59, 60, 61, 62, 63, 64, 65, 66, 67, 68, 69, 70, 71, 72, 73, 74, 75, 76, 77, 78, 79, 80, 81, 82, 83, 84, 85, 86, 87, 88, 89] (by decide +kernel) (by decide +kernel)
set_option maxRecDepth 20000 in
theorem gX11_useful_X11_isFarmer : GoodIn wsX11_useful (wsV RX11 267 RX11 yX11_isFarmer wsX11_isFarmer) := goodIn_app (goodIn_of _ (by decide +kernel)) ggX11_useful_X11_isFarmer
set_option maxRecDepth 20000 in
theorem ggX11_useful_X11_refuse : GoodIn wsX11_useful wsX11_refuse := goodIn_r _ [11, 12, 52, 53, 54, 55, 56, 57, 58, 59, 60, 61, 62, 63, 64, 65, 66, 67, 68, 69, 70, 71, 72, 73, 74, 75, 76, 77, 78, 79, 80, 81, 82, 83, 84, 85, 86, 87, 88, 89] (by decide +kernel) (by decide +kernel)
set_option maxRecDepth 20000 in
theorem gX11_useful_X11_refuse : GoodIn wsX11_useful (wsV RX11 75 RX11 yX11_refuse wsX11_refuse) := goodIn_app (goodIn_of _ (by decide +kernel)) ggX11_useful_X11_refuse
set_option maxRecDepth 20000 in
theorem ggX11_useful_X11_keptOf : GoodIn wsX11_useful wsX11_keptOf := goodIn_r _ [16, 7, 17, 18, 19, 5, 20, 21, 22, 23, 24, 1, 25, 26, 27, 28, 29, 30, 31, 32, 33, 34, 35, 36, 37, 38, 39, 40, 41, 42, 43, 44, 45, 46, 47, 52, 53, 54, 55, 56, 57, 58, 59, 60, 61, 62, 63, 64, 65, 66, 67, 68, 69, 70, 71, 72, 73, 74, 75, 76, 77, 78, 79, 80, 81, 82, 83, 84, 85, 86, 87, 88, 89] (by decide +kernel) (by decide +kernel)
set_option maxRecDepth 20000 in
theorem gX11_useful_X11_keptOf : GoodIn wsX11_useful (wsV RX11 338 RX11 yX11_keptOf wsX11_keptOf) := goodIn_app (goodIn_of _ (by decide +kernel)) ggX11_useful_X11_keptOf
set_option maxRecDepth 20000 in
theorem ggX11_useful_X11_gives : GoodIn wsX11_useful wsX11_gives := goodIn_r _ [51, 12, 52, 53, 54, 55, 56, 57, 58, 59, 60, 61, 62, 63, 64, 65, 66, 67, 68, 69, 70, 71, 72, 73, 74, 75, 76, 77, 78, 79, 80, 81, 82, 83, 84, 85, 86, 87, 88, 89] (by decide +kernel) (by decide +kernel)
set_option maxRecDepth 20000 in
theorem gX11_useful_X11_gives : GoodIn wsX11_useful (wsV RX11 79 RX11 yX11_gives wsX11_gives) := goodIn_app (goodIn_of _ (by decide +kernel)) ggX11_useful_X11_gives
theorem dX11_useful_0 : decode cX11_useful 0 = .ok (.aload_n 0, 1) := by decide +kernel
theorem dX11_useful_1 : decode cX11_useful 1 = .ok (.iload_n 1, 1) := by decide +kernel
theorem dX11_useful_2 : decode cX11_useful 2 = .ok (.invokevirtual 267, 3) := by decide +kernel
theorem dX11_useful_5 : decode cX11_useful 5 = .ok (.ifCond .ne 9, 3) := by decide +kernel
theorem dX11_useful_8 : decode cX11_useful 8 = .ok (.aload_n 0, 1) := by decide +kernel
theorem dX11_useful_9 : decode cX11_useful 9 = .ok (.iconst 1, 1) := by decide +kernel
theorem dX11_useful_10 : decode cX11_useful 10 = .ok (.invokevirtual 75, 3) := by decide +kernel
theorem dX11_useful_13 : decode cX11_useful 13 = .ok (.ireturn, 1) := by decide +kernel
theorem dX11_useful_14 : decode cX11_useful 14 = .ok (.aload_n 0, 1) := by decide +kernel
theorem dX11_useful_15 : decode cX11_useful 15 = .ok (.invokevirtual 338, 3) := by decide +kernel
theorem dX11_useful_18 : decode cX11_useful 18 = .ok (.istore_n 2, 1) := by decide +kernel
theorem dX11_useful_19 : decode cX11_useful 19 = .ok (.aload_n 0, 1) := by decide +kernel
theorem dX11_useful_20 : decode cX11_useful 20 = .ok (.iload_n 1, 1) := by decide +kernel
theorem dX11_useful_21 : decode cX11_useful 21 = .ok (.putfield 47, 3) := by decide +kernel
theorem dX11_useful_24 : decode cX11_useful 24 = .ok (.aload_n 0, 1) := by decide +kernel
theorem dX11_useful_25 : decode cX11_useful 25 = .ok (.invokevirtual 338, 3) := by decide +kernel
theorem dX11_useful_28 : decode cX11_useful 28 = .ok (.istore_n 3, 1) := by decide +kernel
theorem dX11_useful_29 : decode cX11_useful 29 = .ok (.aload_n 0, 1) := by decide +kernel
theorem dX11_useful_30 : decode cX11_useful 30 = .ok (.iconst (-1), 1) := by decide +kernel
theorem dX11_useful_31 : decode cX11_useful 31 = .ok (.putfield 47, 3) := by decide +kernel
theorem dX11_useful_34 : decode cX11_useful 34 = .ok (.aload_n 0, 1) := by decide +kernel
theorem dX11_useful_35 : decode cX11_useful 35 = .ok (.iload_n 2, 1) := by decide +kernel
theorem dX11_useful_36 : decode cX11_useful 36 = .ok (.iload_n 3, 1) := by decide +kernel
theorem dX11_useful_37 : decode cX11_useful 37 = .ok (.isub, 1) := by decide +kernel
theorem dX11_useful_38 : decode cX11_useful 38 = .ok (.invokevirtual 79, 3) := by decide +kernel
theorem dX11_useful_41 : decode cX11_useful 41 = .ok (.ireturn, 1) := by decide +kernel
noncomputable def fX11_useful (p1 : Int32) (s0 : Rc) : Option (Int32 × Rc) :=
if (fX11_isFarmer p1 s0) = (0 : Int32) then (
lt_ (fX11_refuse (1 : Int32) s0) (fun r8 =>
some (r8.1, r8.2))) else (
(fX11_keptOf s0).bind (fun r3 =>
lt_ (si s0 25 p1) (fun s0_4 =>
(fX11_keptOf s0_4).bind (fun r5 =>
lt_ (si s0_4 25 (-1 : Int32)) (fun s0_6 =>
lt_ (fX11_gives (r3 - r5) s0_6) (fun r7 =>
some (r7.1, r7.2)))))))
abbrev rmX11_useful : Room := { frames := 5, cells := 0, slots := 0, locals := 114 }
set_option maxHeartbeats 4000000 in
set_option maxRecDepth 100000 in
theorem kX11_useful (l : Launch) (D : va_G) (cy : Nat → ClassId) (h0 : Nat) (a0 : Nat → Nat) (s0 : Rc) (p1 : Int32) (res : Int32 × Rc) (h : fX11_useful p1 s0 = some res) : CI l D cy yX11_useful wsX11_useful rmX11_useful [.ref h0, .int p1] (WX11 cy h0 a0 s0) (WX11 cy h0 a0 res.2) res.1 := by
  refine CI.of (cc := cX11_useful) (maxL := 4) (by decide) rfl (Nat.le_of_ble_eq_true rfl) ?_
  intro p e s m args below meth c A QQ ls E hr
  obtain ⟨hx, hb, hml, hown, hts, hK, hN, hP, hD, hA, hl⟩ := E
  have hret : ∀ (pc : Nat) (H : Heap) (locs : List Loc) (ls : Array Slot) (u : Int32 × Rc), u = res → va_P D vwCl (WX11 cy h0 a0 u.2) H → va_D A (WX11 cy h0 a0 u.2) → va_S A s.heap H locs → decode cX11_useful pc = .ok (.ireturn, 1) → W p l e rmX11_useful s m args below meth c H locs 0 0 QQ (F0 m pc ls [.int u.1]) := by
    intro pc H locs ls u hu hP hD hS hd; subst hu; exact hr pc H locs ls _ rfl hP hD hS hd
  clear hr
  have hl : lv_has ls 4 [(0, .ref h0), (1, .int p1)] := hl
  have hinX11 : ∀ w ∈ wsX110, w ∈ wsX11_useful := fun _ h => List.mem_cons_of_mem _ (List.mem_append_right _ h)
  unfold fX11_useful at h
  suffices key : ∀ (H : Heap) (locs : List Loc), va_P D vwCl (WX11 cy h0 a0 s0) H → va_S A s.heap H locs → W p l e rmX11_useful s m args below meth c H locs 0 0 QQ (F0 m 0 ls []) from key _ _ hP va_S.rf
  clear hP
  intro H locs hP hS
  refine lv_aload_n hx hb dX11_useful_0 rfl (lv_at hl 0 rfl) ?_
  refine lv_iload_n hx hb dX11_useful_1 rfl (lv_at hl 1 rfl) ?_
  refine ca_z (w' := WX11 cy h0 a0 s0) (rn_V (As := [.int p1]) (rest := []) ⟨hx, hb, hml, hown, hts⟩ (kX11_isFarmer l D cy h0 a0 s0 p1 _ rfl H.size) (cwV 1 hts gX11_useful_X11_isFarmer rfl rfl rfl (by decide +kernel) ⟨Nat.le_of_ble_eq_true rfl, Nat.le_of_ble_eq_true rfl⟩) hK hN hP hD [0, 1, 2, 3, 4, 5, 6, 7, 8, 9, 10, 11, 12, 13] rfl rfl (ci := 11) (q0 := 0) rfl rfl rfl rfl hl.1 rfl (Nat.le_of_ble_eq_true rfl) dX11_useful_2 ⟨Nat.le_refl 0, Nat.le_refl 0⟩) hP hD hS hA [0, 1, 2, 3, 4, 5, 6, 7, 8, 9, 10, 11, 12, 13] ⟨rfl, rfl, rfl, rfl⟩ (fun b1 H locs hP hD hS => ?_)
  refine lv_if_ne (tgt := 14) hx hb dX11_useful_5 (by decide) (fun c2 => ?_) (fun c2 => ?_)
  · replace h := (if_neg c2).symm.trans h
    refine lv_aload_n hx hb dX11_useful_14 rfl (lv_at hl 0 rfl) ?_
    obtain ⟨r3, hr3, h⟩ := bd_elim h
    refine ca_i (w' := WX11 cy h0 a0 s0) (rn_V (As := []) (rest := []) ⟨hx, hb, hml, hown, hts⟩ (kX11_keptOf l D cy h0 a0 s0 r3 hr3 H.size) (cwV 0 hts gX11_useful_X11_keptOf rfl rfl rfl (by decide +kernel) ⟨Nat.le_of_ble_eq_true rfl, Nat.le_of_ble_eq_true rfl⟩) hK hN hP hD [0, 1, 2, 3, 4, 5, 6, 7, 8, 9, 10, 11, 12, 13] rfl rfl (ci := 11) (q0 := 0) rfl rfl rfl rfl hl.1 rfl (Nat.le_of_ble_eq_true rfl) dX11_useful_15 ⟨Nat.le_refl 0, Nat.le_refl 0⟩) hP hD hS hA [0, 1, 2, 3, 4, 5, 6, 7, 8, 9, 10, 11, 12, 13] ⟨rfl, rfl, rfl, rfl⟩ (fun H locs hP hD hS => ?_)
    refine lv_istore_n (lv' := [(2, .int r3), (0, .ref h0), (1, .int p1)]) hx hb dX11_useful_18 rfl hl (by decide) rfl (fun ls hl => ?_)
    refine lv_aload_n hx hb dX11_useful_19 rfl (lv_at hl 1 rfl) ?_
    refine lv_iload_n hx hb dX11_useful_20 rfl (lv_at hl 2 rfl) ?_
    obtain ⟨s0_4, es, h⟩ := lt_elim h
    refine va_put (D := D) (ci := 11) (v := .int p1) (ty := .int) (C := RX11) (T := TX11) (N := 38) hx hb hts hinX11 tyX11 tyX11_ok nmX11 hown hK hP hD hS 0 rfl rfl 25 (by decide) (hts (.fieldLink RX11 47 "KneeBenchModel" "mute" "I") (List.mem_of_getElem? (i := 1) rfl)) (fun _ h9 => h9) rfl (by decide +kernel) rfl rfl (Nat.le_of_ble_eq_true rfl) dX11_useful_21 (fun H locs hP hD hS => ?_)
    have hP : va_P D vwCl (WX11 cy h0 a0 s0_4) H := by rw [es]; exact hP
    have hD : va_D A (WX11 cy h0 a0 s0_4) := by rw [es]; exact hD
    clear es
    refine lv_aload_n hx hb dX11_useful_24 rfl (lv_at hl 1 rfl) ?_
    obtain ⟨r5, hr5, h⟩ := bd_elim h
    refine ca_i (w' := WX11 cy h0 a0 s0_4) (rn_V (As := []) (rest := []) ⟨hx, hb, hml, hown, hts⟩ (kX11_keptOf l D cy h0 a0 s0_4 r5 hr5 H.size) (cwV 0 hts gX11_useful_X11_keptOf rfl rfl rfl (by decide +kernel) ⟨Nat.le_of_ble_eq_true rfl, Nat.le_of_ble_eq_true rfl⟩) hK hN hP hD [0, 1, 2, 3, 4, 5, 6, 7, 8, 9, 10, 11, 12, 13] rfl rfl (ci := 11) (q0 := 0) rfl rfl rfl rfl hl.1 rfl (Nat.le_of_ble_eq_true rfl) dX11_useful_25 ⟨Nat.le_refl 0, Nat.le_refl 0⟩) hP hD hS hA [0, 1, 2, 3, 4, 5, 6, 7, 8, 9, 10, 11, 12, 13] ⟨rfl, rfl, rfl, rfl⟩ (fun H locs hP hD hS => ?_)
    refine lv_istore_n (lv' := [(3, .int r5), (2, .int r3), (0, .ref h0), (1, .int p1)]) hx hb dX11_useful_28 rfl hl (by decide) rfl (fun ls hl => ?_)
    refine lv_aload_n hx hb dX11_useful_29 rfl (lv_at hl 2 rfl) ?_
    refine lv_iconst (v := -1) hx hb dX11_useful_30 (by decide) ?_
    obtain ⟨s0_6, es, h⟩ := lt_elim h
    refine va_put (D := D) (ci := 11) (v := .int (-1 : Int32)) (ty := .int) (C := RX11) (T := TX11) (N := 38) hx hb hts hinX11 tyX11 tyX11_ok nmX11 hown hK hP hD hS 0 rfl rfl 25 (by decide) (hts (.fieldLink RX11 47 "KneeBenchModel" "mute" "I") (List.mem_of_getElem? (i := 1) rfl)) (fun _ h9 => h9) rfl (by decide +kernel) rfl rfl (Nat.le_of_ble_eq_true rfl) dX11_useful_31 (fun H locs hP hD hS => ?_)
    have hP : va_P D vwCl (WX11 cy h0 a0 s0_6) H := by rw [es]; exact hP
    have hD : va_D A (WX11 cy h0 a0 s0_6) := by rw [es]; exact hD
    clear es
    refine lv_aload_n hx hb dX11_useful_34 rfl (lv_at hl 2 rfl) ?_
    refine lv_iload_n hx hb dX11_useful_35 rfl (lv_at hl 1 rfl) ?_
    refine lv_iload_n hx hb dX11_useful_36 rfl (lv_at hl 0 rfl) ?_
    refine lv_isub hx hb dX11_useful_37 ?_
    obtain ⟨r7, hr7, h⟩ := lt_elim h
    refine ca_i (w' := WX11 cy h0 a0 r7.2) (rn_V (As := [.int (r3 - r5)]) (rest := []) ⟨hx, hb, hml, hown, hts⟩ (kX11_gives l D cy h0 a0 s0_6 (r3 - r5) r7 hr7.symm H.size) (cwV 1 hts gX11_useful_X11_gives rfl rfl rfl (by decide +kernel) ⟨Nat.le_of_ble_eq_true rfl, Nat.le_of_ble_eq_true rfl⟩) hK hN hP hD [0, 1, 2, 3, 4, 5, 6, 7, 8, 9, 10, 11, 12, 13] rfl rfl (ci := 11) (q0 := 0) rfl rfl rfl rfl hl.1 rfl (Nat.le_of_ble_eq_true rfl) dX11_useful_38 ⟨Nat.le_refl 0, Nat.le_refl 0⟩) hP hD hS hA [0, 1, 2, 3, 4, 5, 6, 7, 8, 9, 10, 11, 12, 13] ⟨rfl, rfl, rfl, rfl⟩ (fun H locs hP hD hS => ?_)
    exact hret 41 H locs ls (r7.1, r7.2) (Option.some.inj h) hP hD hS dX11_useful_41
  · replace h := (if_pos c2).symm.trans h
    refine lv_aload_n hx hb dX11_useful_8 rfl (lv_at hl 0 rfl) ?_
    refine lv_iconst (v := 1) hx hb dX11_useful_9 (by decide) ?_
    obtain ⟨r8, hr8, h⟩ := lt_elim h
    refine ca_i (w' := WX11 cy h0 a0 r8.2) (rn_V (As := [.int (1 : Int32)]) (rest := []) ⟨hx, hb, hml, hown, hts⟩ (kX11_refuse l D cy h0 a0 s0 (1 : Int32) r8 hr8.symm H.size) (cwV 1 hts gX11_useful_X11_refuse rfl rfl rfl (by decide +kernel) ⟨Nat.le_of_ble_eq_true rfl, Nat.le_of_ble_eq_true rfl⟩) hK hN hP hD [0, 1, 2, 3, 4, 5, 6, 7, 8, 9, 10, 11, 12, 13] rfl rfl (ci := 11) (q0 := 0) rfl rfl rfl rfl hl.1 rfl (Nat.le_of_ble_eq_true rfl) dX11_useful_10 ⟨Nat.le_refl 0, Nat.le_refl 0⟩) hP hD hS hA [0, 1, 2, 3, 4, 5, 6, 7, 8, 9, 10, 11, 12, 13] ⟨rfl, rfl, rfl, rfl⟩ (fun H locs hP hD hS => ?_)
    exact hret 13 H locs ls (r8.1, r8.2) (Option.some.inj h) hP hD hS dX11_useful_13
set_option maxRecDepth 20000 in
theorem ggX11_warned_X11_refuse : GoodIn wsX11_warned wsX11_refuse := goodIn_r _ [6, 7, 40, 41, 42, 43, 44, 45, 46, 47, 48, 49, 50, 51, 52, 53, 54, 55, 56, 57, 58, 59, 60, 61, 62, 63, 64, 65, 66, 67, 68, 69, 70, 71, 72, 73, 74, 75, 76, 77] (by decide +kernel) (by decide +kernel)
set_option maxRecDepth 20000 in
theorem gX11_warned_X11_refuse : GoodIn wsX11_warned (wsV RX11 75 RX11 yX11_refuse wsX11_refuse) := goodIn_app (goodIn_of _ (by decide +kernel)) ggX11_warned_X11_refuse
set_option maxRecDepth 20000 in
theorem ggX11_warned_X11_tellOf : GoodIn wsX11_warned wsX11_tellOf := goodIn_r _ [11, 12, 1, 13, 14, 15, 16, 5, 17, 18, 19, 20, 21, 22, 23, 24, 25, 26, 27, 28, 29, 30, 31, 40, 41, 42, 43, 44, 45, 46, 47, 48, 49, 50, 51, 52, 53, 54, 55, 56, 57, 58, 59, 60, 61, 62, 63, 64, 65, 66, 67, 68, 69, 70, 71, 72, 73, 74, 75, 76, 77] (by decide +kernel) (by decide +kernel)
set_option maxRecDepth 20000 in
theorem gX11_warned_X11_tellOf : GoodIn wsX11_warned (wsV RX11 307 RX11 yX11_tellOf wsX11_tellOf) := goodIn_app (goodIn_of _ (by decide +kernel)) ggX11_warned_X11_tellOf
set_option maxRecDepth 20000 in
theorem ggX11_warned_X11_isWet : GoodIn wsX11_warned wsX11_isWet := goodIn_r _ [35, 1, 40, 41, 42, 43, 44, 45, 46, 47, 48, 49, 50, 51, 52, 53, 54, 55, 56, 57, 58, 59, 60, 61, 62, 63, 64, 65, 66, 67, 68, 69, 70, 71, 72, 73, 74, 75, 76, 77] (by decide +kernel) (by decide +kernel)
set_option maxRecDepth 20000 in
theorem gX11_warned_X11_isWet : GoodIn wsX11_warned (wsV RX11 264 RX11 yX11_isWet wsX11_isWet) := goodIn_app (goodIn_of _ (by decide +kernel)) ggX11_warned_X11_isWet
set_option maxRecDepth 20000 in
theorem ggX11_warned_X11_gives : GoodIn wsX11_warned wsX11_gives := goodIn_r _ [39, 7, 40, 41, 42, 43, 44, 45, 46, 47, 48, 49, 50, 51, 52, 53, 54, 55, 56, 57, 58, 59, 60, 61, 62, 63, 64, 65, 66, 67, 68, 69, 70, 71, 72, 73, 74, 75, 76, 77] (by decide +kernel) (by decide +kernel)
set_option maxRecDepth 20000 in
theorem gX11_warned_X11_gives : GoodIn wsX11_warned (wsV RX11 79 RX11 yX11_gives wsX11_gives) := goodIn_app (goodIn_of _ (by decide +kernel)) ggX11_warned_X11_gives
theorem dX11_warned_0 : decode cX11_warned 0 = .ok (.iload_n 1, 1) := by decide +kernel
theorem dX11_warned_1 : decode cX11_warned 1 = .ok (.ifCond .lt 8, 3) := by decide +kernel
theorem dX11_warned_4 : decode cX11_warned 4 = .ok (.iload_n 1, 1) := by decide +kernel
theorem dX11_warned_5 : decode cX11_warned 5 = .ok (.iconst 1, 1) := by decide +kernel
theorem dX11_warned_6 : decode cX11_warned 6 = .ok (.if_icmp .le 9, 3) := by decide +kernel
theorem dX11_warned_9 : decode cX11_warned 9 = .ok (.aload_n 0, 1) := by decide +kernel
theorem dX11_warned_10 : decode cX11_warned 10 = .ok (.iconst 1, 1) := by decide +kernel
theorem dX11_warned_11 : decode cX11_warned 11 = .ok (.invokevirtual 75, 3) := by decide +kernel
theorem dX11_warned_14 : decode cX11_warned 14 = .ok (.ireturn, 1) := by decide +kernel
theorem dX11_warned_15 : decode cX11_warned 15 = .ok (.iconst 0, 1) := by decide +kernel
theorem dX11_warned_16 : decode cX11_warned 16 = .ok (.istore_n 2, 1) := by decide +kernel
theorem dX11_warned_17 : decode cX11_warned 17 = .ok (.iconst 0, 1) := by decide +kernel
theorem dX11_warned_18 : decode cX11_warned 18 = .ok (.istore_n 3, 1) := by decide +kernel
theorem dX11_warned_19 : decode cX11_warned 19 = .ok (.iload_n 3, 1) := by decide +kernel
theorem dX11_warned_20 : decode cX11_warned 20 = .ok (.aload_n 0, 1) := by decide +kernel
theorem dX11_warned_21 : decode cX11_warned 21 = .ok (.getfield 7, 3) := by decide +kernel
theorem dX11_warned_24 : decode cX11_warned 24 = .ok (.iconst 1, 1) := by decide +kernel
theorem dX11_warned_25 : decode cX11_warned 25 = .ok (.iaload, 1) := by decide +kernel
theorem dX11_warned_26 : decode cX11_warned 26 = .ok (.if_icmp .ge 85, 3) := by decide +kernel
theorem dX11_warned_29 : decode cX11_warned 29 = .ok (.iconst 0, 1) := by decide +kernel
theorem dX11_warned_30 : decode cX11_warned 30 = .ok (.istore 4, 2) := by decide +kernel
theorem dX11_warned_32 : decode cX11_warned 32 = .ok (.iconst 0, 1) := by decide +kernel
theorem dX11_warned_33 : decode cX11_warned 33 = .ok (.istore 5, 2) := by decide +kernel
theorem dX11_warned_35 : decode cX11_warned 35 = .ok (.iload 5, 2) := by decide +kernel
theorem dX11_warned_37 : decode cX11_warned 37 = .ok (.aload_n 0, 1) := by decide +kernel
theorem dX11_warned_38 : decode cX11_warned 38 = .ok (.getfield 7, 3) := by decide +kernel
theorem dX11_warned_41 : decode cX11_warned 41 = .ok (.iconst 0, 1) := by decide +kernel
theorem dX11_warned_42 : decode cX11_warned 42 = .ok (.iaload, 1) := by decide +kernel
theorem dX11_warned_43 : decode cX11_warned 43 = .ok (.if_icmp .ge 32, 3) := by decide +kernel
theorem dX11_warned_46 : decode cX11_warned 46 = .ok (.iload 4, 2) := by decide +kernel
theorem dX11_warned_48 : decode cX11_warned 48 = .ok (.ifCond .ne 14, 3) := by decide +kernel
theorem dX11_warned_51 : decode cX11_warned 51 = .ok (.aload_n 0, 1) := by decide +kernel
theorem dX11_warned_52 : decode cX11_warned 52 = .ok (.iload 5, 2) := by decide +kernel
theorem dX11_warned_54 : decode cX11_warned 54 = .ok (.iload_n 3, 1) := by decide +kernel
theorem dX11_warned_55 : decode cX11_warned 55 = .ok (.invokevirtual 307, 3) := by decide +kernel
theorem dX11_warned_58 : decode cX11_warned 58 = .ok (.iconst 1, 1) := by decide +kernel
theorem dX11_warned_59 : decode cX11_warned 59 = .ok (.if_icmp .ne 7, 3) := by decide +kernel
theorem dX11_warned_62 : decode cX11_warned 62 = .ok (.iconst 1, 1) := by decide +kernel
theorem dX11_warned_63 : decode cX11_warned 63 = .ok (.goto 4, 3) := by decide +kernel
theorem dX11_warned_66 : decode cX11_warned 66 = .ok (.iconst 0, 1) := by decide +kernel
theorem dX11_warned_67 : decode cX11_warned 67 = .ok (.istore 4, 2) := by decide +kernel
theorem dX11_warned_69 : decode cX11_warned 69 = .ok (.iinc 5 1, 3) := by decide +kernel
theorem dX11_warned_72 : decode cX11_warned 72 = .ok (.goto (-37), 3) := by decide +kernel
theorem dX11_warned_75 : decode cX11_warned 75 = .ok (.iload_n 2, 1) := by decide +kernel
theorem dX11_warned_76 : decode cX11_warned 76 = .ok (.aload_n 0, 1) := by decide +kernel
theorem dX11_warned_77 : decode cX11_warned 77 = .ok (.iload_n 3, 1) := by decide +kernel
theorem dX11_warned_78 : decode cX11_warned 78 = .ok (.invokevirtual 264, 3) := by decide +kernel
theorem dX11_warned_81 : decode cX11_warned 81 = .ok (.ifCond .eq 21, 3) := by decide +kernel
theorem dX11_warned_84 : decode cX11_warned 84 = .ok (.iload 4, 2) := by decide +kernel
theorem dX11_warned_86 : decode cX11_warned 86 = .ok (.iload_n 1, 1) := by decide +kernel
theorem dX11_warned_87 : decode cX11_warned 87 = .ok (.ifCond .ne 7, 3) := by decide +kernel
theorem dX11_warned_90 : decode cX11_warned 90 = .ok (.iconst 1, 1) := by decide +kernel
theorem dX11_warned_91 : decode cX11_warned 91 = .ok (.goto 4, 3) := by decide +kernel
theorem dX11_warned_94 : decode cX11_warned 94 = .ok (.iconst 0, 1) := by decide +kernel
theorem dX11_warned_95 : decode cX11_warned 95 = .ok (.if_icmp .ne 7, 3) := by decide +kernel
theorem dX11_warned_98 : decode cX11_warned 98 = .ok (.iconst 1, 1) := by decide +kernel
theorem dX11_warned_99 : decode cX11_warned 99 = .ok (.goto 4, 3) := by decide +kernel
theorem dX11_warned_102 : decode cX11_warned 102 = .ok (.iconst 0, 1) := by decide +kernel
theorem dX11_warned_103 : decode cX11_warned 103 = .ok (.iadd, 1) := by decide +kernel
theorem dX11_warned_104 : decode cX11_warned 104 = .ok (.istore_n 2, 1) := by decide +kernel
theorem dX11_warned_105 : decode cX11_warned 105 = .ok (.iinc 3 1, 3) := by decide +kernel
theorem dX11_warned_108 : decode cX11_warned 108 = .ok (.goto (-89), 3) := by decide +kernel
theorem dX11_warned_111 : decode cX11_warned 111 = .ok (.aload_n 0, 1) := by decide +kernel
theorem dX11_warned_112 : decode cX11_warned 112 = .ok (.iload_n 2, 1) := by decide +kernel
theorem dX11_warned_113 : decode cX11_warned 113 = .ok (.invokevirtual 79, 3) := by decide +kernel
theorem dX11_warned_116 : decode cX11_warned 116 = .ok (.ireturn, 1) := by decide +kernel
noncomputable def fX11_warned_J95 (y95_3 : Int32) (z95_0 : Int32) (z95_1 : Int32) (z95_2 : Int32) : Option ((Int32 × Int32) ⊕ Int32) :=
if z95_1 = z95_0 then (
lt_ (z95_2 + (1 : Int32)) (fun x6 =>
some (.inl (x6, (y95_3 + (1 : Int32)))))) else (
lt_ (z95_2 + (0 : Int32)) (fun x5 =>
some (.inl (x5, (y95_3 + (1 : Int32))))))
noncomputable def fX11_warned_L35 (s0 : Rc) (q19 : Int32 × Int32) (q35 : Int32 × Int32) : Option ((Int32 × Int32) ⊕ Int32) :=
if (ga s0 0 (0 : Int32).toNatClampNeg) ≤ q35.2 then (
some (.inr q35.1)) else (
if q35.1 = (0 : Int32) then (
(fX11_tellOf q35.2 q19.2 s0).bind (fun r10 =>
if r10 = (1 : Int32) then (
some (.inl ((1 : Int32), (q35.2 + (1 : Int32))))) else (
some (.inl ((0 : Int32), (q35.2 + (1 : Int32))))))) else (
some (.inl ((1 : Int32), (q35.2 + (1 : Int32))))))
noncomputable def fX11_warned_L19 (p1 : Int32) (s0 : Rc) (q19 : Int32 × Int32) : Option ((Int32 × Int32) ⊕ Int32) :=
if (ga s0 0 (1 : Int32).toNatClampNeg) ≤ q19.2 then (
some (.inr q19.1)) else (
(loopF (fX11_warned_L35 s0 q19) ((0 : Int32), (0 : Int32))).bind (fun o35 =>
(fX11_isWet q19.2 s0).bind (fun r12 =>
if r12 = (0 : Int32) then (
lt_ (q19.1 + (0 : Int32)) (fun x15 =>
some (.inl (x15, (q19.2 + (1 : Int32)))))) else (
if p1 = (0 : Int32) then (
fX11_warned_J95 q19.2 (1 : Int32) o35 q19.1) else (
fX11_warned_J95 q19.2 (0 : Int32) o35 q19.1)))))
noncomputable def fX11_warned (p1 : Int32) (s0 : Rc) : Option (Int32 × Rc) :=
if p1 < (0 : Int32) then (
lt_ (fX11_refuse (1 : Int32) s0) (fun r2 =>
some (r2.1, r2.2))) else (
if p1 ≤ (1 : Int32) then (
(loopF (fX11_warned_L19 p1 s0) ((0 : Int32), (0 : Int32))).bind (fun o19 =>
lt_ (fX11_gives o19 s0) (fun r17 =>
some (r17.1, r17.2)))) else (
lt_ (fX11_refuse (1 : Int32) s0) (fun r18 =>
some (r18.1, r18.2))))
abbrev rmX11_warned : Room := { frames := 3, cells := 0, slots := 0, locals := 66 }
set_option maxHeartbeats 4000000 in
set_option maxRecDepth 100000 in
theorem kX11_warned (l : Launch) (D : va_G) (cy : Nat → ClassId) (h0 : Nat) (a0 : Nat → Nat) (s0 : Rc) (p1 : Int32) (res : Int32 × Rc) (h : fX11_warned p1 s0 = some res) : CI l D cy yX11_warned wsX11_warned rmX11_warned [.ref h0, .int p1] (WX11 cy h0 a0 s0) (WX11 cy h0 a0 res.2) res.1 := by
  refine CI.of (cc := cX11_warned) (maxL := 6) (by decide) rfl (Nat.le_of_ble_eq_true rfl) ?_
  intro p e s m args below meth c A QQ ls E hr
  obtain ⟨hx, hb, hml, hown, hts, hK, hN, hP, hD, hA, hl⟩ := E
  have hret : ∀ (pc : Nat) (H : Heap) (locs : List Loc) (ls : Array Slot) (u : Int32 × Rc), u = res → va_P D vwCl (WX11 cy h0 a0 u.2) H → va_D A (WX11 cy h0 a0 u.2) → va_S A s.heap H locs → decode cX11_warned pc = .ok (.ireturn, 1) → W p l e rmX11_warned s m args below meth c H locs 0 0 QQ (F0 m pc ls [.int u.1]) := by
    intro pc H locs ls u hu hP hD hS hd; subst hu; exact hr pc H locs ls _ rfl hP hD hS hd
  clear hr
  have hl : lv_has ls 6 [(0, .ref h0), (1, .int p1)] := hl
  have hinX11 : ∀ w ∈ wsX110, w ∈ wsX11_warned := fun _ h => List.mem_cons_of_mem _ (List.mem_append_right _ h)
  unfold fX11_warned at h
  suffices key : ∀ (H : Heap) (locs : List Loc), va_P D vwCl (WX11 cy h0 a0 s0) H → va_S A s.heap H locs → W p l e rmX11_warned s m args below meth c H locs 0 0 QQ (F0 m 0 ls []) from key _ _ hP va_S.rf
  clear hP
  intro H locs hP hS
  refine lv_iload_n hx hb dX11_warned_0 rfl (lv_at hl 1 rfl) ?_
  refine lv_if_lt (tgt := 9) hx hb dX11_warned_1 (by decide) (fun c1 => ?_) (fun c1 => ?_)
  · replace h := (if_pos c1).symm.trans h
    refine lv_aload_n hx hb dX11_warned_9 rfl (lv_at hl 0 rfl) ?_
    refine lv_iconst (v := 1) hx hb dX11_warned_10 (by decide) ?_
    obtain ⟨r2, hr2, h⟩ := lt_elim h
    refine ca_i (w' := WX11 cy h0 a0 r2.2) (rn_V (As := [.int (1 : Int32)]) (rest := []) ⟨hx, hb, hml, hown, hts⟩ (kX11_refuse l D cy h0 a0 s0 (1 : Int32) r2 hr2.symm H.size) (cwV 1 hts gX11_warned_X11_refuse rfl rfl rfl (by decide +kernel) ⟨Nat.le_of_ble_eq_true rfl, Nat.le_of_ble_eq_true rfl⟩) hK hN hP hD [0, 1, 2, 3, 4, 5, 6, 7, 8, 9, 10, 11, 12, 13] rfl rfl (ci := 11) (q0 := 0) rfl rfl rfl rfl hl.1 rfl (Nat.le_of_ble_eq_true rfl) dX11_warned_11 ⟨Nat.le_refl 0, Nat.le_refl 0⟩) hP hD hS hA [0, 1, 2, 3, 4, 5, 6, 7, 8, 9, 10, 11, 12, 13] ⟨rfl, rfl, rfl, rfl⟩ (fun H locs hP hD hS => ?_)
    exact hret 14 H locs ls (r2.1, r2.2) (Option.some.inj h) hP hD hS dX11_warned_14
  · replace h := (if_neg c1).symm.trans h
    refine lv_iload_n hx hb dX11_warned_4 rfl (lv_at hl 1 rfl) ?_
    refine lv_iconst (v := 1) hx hb dX11_warned_5 (by decide) ?_
    refine lv_icmp_le (tgt := 15) hx hb dX11_warned_6 (by decide) (fun c3 => ?_) (fun c3 => ?_)
    · replace h := (if_pos c3).symm.trans h
      refine lv_iconst (v := 0) hx hb dX11_warned_15 (by decide) ?_
      refine lv_istore_n (lv' := [(2, .int (0 : Int32)), (0, .ref h0), (1, .int p1)]) hx hb dX11_warned_16 rfl hl (by decide) rfl (fun ls hl => ?_)
      refine lv_iconst (v := 0) hx hb dX11_warned_17 (by decide) ?_
      refine lv_istore_n (lv' := [(3, .int (0 : Int32)), (2, .int (0 : Int32)), (0, .ref h0), (1, .int p1)]) hx hb dX11_warned_18 rfl hl (by decide) rfl (fun ls hl => ?_)
      have L19 : ∀ (n : Nat) (q19 : Int32 × Int32) (o : Int32), loopO (fX11_warned_L19 p1 s0) n q19 = some o → ∀ (H : Heap) (locs : List Loc) (ls : Array Slot), lv_has ls 6 [(0, .ref h0), (1, .int p1), (2, .int q19.1), (3, .int q19.2)] → va_P D vwCl (WX11 cy h0 a0 s0) H → va_D A (WX11 cy h0 a0 s0) → va_S A s.heap H locs → ∀ (kk111 : ∀ (H : Heap) (locs : List Loc) (ls : Array Slot), lv_has ls 6 [(0, .ref h0), (2, .int o)] → va_P D vwCl (WX11 cy h0 a0 s0) H → va_D A (WX11 cy h0 a0 s0) → va_S A s.heap H locs → W p l e rmX11_warned s m args below meth c H locs 0 0 QQ (F0 m 111 ls [])), W p l e rmX11_warned s m args below meth c H locs 0 0 QQ (F0 m 19 ls []) := by
        intro n
        induction n with
        | zero => intro q19 o h; exact absurd h (by rw [loopO_zero]; intro z; cases z)
        | succ n ih =>
          intro q19 o h H locs ls hl hP hD hS kk111
          obtain ⟨w, h, hgo, hst⟩ := loopO_elim h
          unfold fX11_warned_L19 at h
          have J95 : ∀ (y95_3 : Int32) (z95_0 : Int32) (z95_1 : Int32) (z95_2 : Int32) (H : Heap) (locs : List Loc) (ls : Array Slot), lv_has ls 6 [(0, .ref h0), (1, .int p1), (3, .int y95_3)] → va_P D vwCl (WX11 cy h0 a0 s0) H → va_D A (WX11 cy h0 a0 s0) → va_S A s.heap H locs → fX11_warned_J95 y95_3 z95_0 z95_1 z95_2 = some w → W p l e rmX11_warned s m args below meth c H locs 0 0 QQ (F0 m 95 ls [.int z95_0, .int z95_1, .int z95_2]) := by
            intro y95_3 z95_0 z95_1 z95_2 H locs ls hl hP hD hS h
            unfold fX11_warned_J95 at h
            refine lv_icmp_ne (tgt := 102) hx hb dX11_warned_95 (by decide) (fun c4 => ?_) (fun c4 => ?_)
            · replace h := (if_neg c4).symm.trans h
              refine lv_iconst (v := 0) hx hb dX11_warned_102 (by decide) ?_
              refine lv_iadd hx hb dX11_warned_103 ?_
              refine lv_topi (fun x5 ex5 => ?_)
              replace h := lt_use h x5 ex5
              refine lv_istore_n (lv' := [(2, .int x5), (0, .ref h0), (1, .int p1), (3, .int y95_3)]) hx hb dX11_warned_104 rfl hl (by decide) rfl (fun ls hl => ?_)
              refine lv_iinc (v := (y95_3 + (1 : Int32))) (lv' := [(3, .int (y95_3 + (1 : Int32))), (2, .int x5), (0, .ref h0), (1, .int p1)]) hx hb dX11_warned_105 hl (k := 3) rfl rfl (by decide) rfl (fun ls hl => ?_)
              refine lv_goto (tgt := 19) hx hb dX11_warned_108 (by decide) ?_
              exact ih _ o (hgo _ (Option.some.inj h).symm) H locs ls (lv_sub hl [2, 3, 1, 0] rfl) hP hD hS kk111
            · replace h := (if_pos c4).symm.trans h
              refine lv_iconst (v := 1) hx hb dX11_warned_98 (by decide) ?_
              refine lv_goto (tgt := 103) hx hb dX11_warned_99 (by decide) ?_
              refine lv_iadd hx hb dX11_warned_103 ?_
              refine lv_topi (fun x6 ex6 => ?_)
              replace h := lt_use h x6 ex6
              refine lv_istore_n (lv' := [(2, .int x6), (0, .ref h0), (1, .int p1), (3, .int y95_3)]) hx hb dX11_warned_104 rfl hl (by decide) rfl (fun ls hl => ?_)
              refine lv_iinc (v := (y95_3 + (1 : Int32))) (lv' := [(3, .int (y95_3 + (1 : Int32))), (2, .int x6), (0, .ref h0), (1, .int p1)]) hx hb dX11_warned_105 hl (k := 3) rfl rfl (by decide) rfl (fun ls hl => ?_)
              refine lv_goto (tgt := 19) hx hb dX11_warned_108 (by decide) ?_
              exact ih _ o (hgo _ (Option.some.inj h).symm) H locs ls (lv_sub hl [2, 3, 1, 0] rfl) hP hD hS kk111
          refine lv_iload_n hx hb dX11_warned_19 rfl (lv_at hl 3 rfl) ?_
          refine lv_aload_n hx hb dX11_warned_20 rfl (lv_at hl 0 rfl) ?_
          refine va_get (D := D) (ci := 11) (v := .ref (a0 0)) (C := RX11) (T := TX11) (N := 38) hx hb hts hinX11 hown hK hP 0 rfl rfl 0 (by decide) (hts (.fieldLink RX11 7 "KneeBenchModel" "at" "[I") (List.mem_of_getElem? (i := 1) rfl)) (fun _ h9 => h9) rfl dX11_warned_21 ?_
          refine lv_iconst (v := 1) hx hb dX11_warned_24 (by decide) ?_
          refine va_iald hx hb hK hP 1 1 rfl rfl (inb_in (by decide)) dX11_warned_25 ?_
          refine lv_icmp_ge (tgt := 111) hx hb dX11_warned_26 (by decide) (fun c7 => ?_) (fun c7 => ?_)
          · replace h := (if_pos c7).symm.trans h
            have eo := hst _ (Option.some.inj h).symm
            subst eo
            exact kk111 H locs ls (lv_sub hl [0, 2] rfl) hP hD hS
          · replace h := (if_neg c7).symm.trans h
            refine lv_iconst (v := 0) hx hb dX11_warned_29 (by decide) ?_
            refine lv_istore (lv' := [(4, .int (0 : Int32)), (0, .ref h0), (1, .int p1), (2, .int q19.1), (3, .int q19.2)]) hx hb dX11_warned_30 hl (by decide) rfl (fun ls hl => ?_)
            refine lv_iconst (v := 0) hx hb dX11_warned_32 (by decide) ?_
            refine lv_istore (lv' := [(5, .int (0 : Int32)), (4, .int (0 : Int32)), (0, .ref h0), (1, .int p1), (2, .int q19.1), (3, .int q19.2)]) hx hb dX11_warned_33 hl (by decide) rfl (fun ls hl => ?_)
            have L35 : ∀ (n : Nat) (q35 : Int32 × Int32) (o : Int32), loopO (fX11_warned_L35 s0 q19) n q35 = some o → ∀ (H : Heap) (locs : List Loc) (ls : Array Slot), lv_has ls 6 [(0, .ref h0), (1, .int p1), (2, .int q19.1), (3, .int q19.2), (4, .int q35.1), (5, .int q35.2)] → va_P D vwCl (WX11 cy h0 a0 s0) H → va_D A (WX11 cy h0 a0 s0) → va_S A s.heap H locs → ∀ (kk75 : ∀ (H : Heap) (locs : List Loc) (ls : Array Slot), lv_has ls 6 [(0, .ref h0), (1, .int p1), (2, .int q19.1), (3, .int q19.2), (4, .int o)] → va_P D vwCl (WX11 cy h0 a0 s0) H → va_D A (WX11 cy h0 a0 s0) → va_S A s.heap H locs → W p l e rmX11_warned s m args below meth c H locs 0 0 QQ (F0 m 75 ls [])), W p l e rmX11_warned s m args below meth c H locs 0 0 QQ (F0 m 35 ls []) := by
              intro n
              induction n with
              | zero => intro q35 o h; exact absurd h (by rw [loopO_zero]; intro z; cases z)
              | succ n ih =>
                intro q35 o h H locs ls hl hP hD hS kk75
                obtain ⟨w, h, hgo, hst⟩ := loopO_elim h
                unfold fX11_warned_L35 at h
                refine lv_iload hx hb dX11_warned_35 (lv_at hl 5 rfl) ?_
                refine lv_aload_n hx hb dX11_warned_37 rfl (lv_at hl 0 rfl) ?_
                refine va_get (D := D) (ci := 11) (v := .ref (a0 0)) (C := RX11) (T := TX11) (N := 38) hx hb hts hinX11 hown hK hP 0 rfl rfl 0 (by decide) (hts (.fieldLink RX11 7 "KneeBenchModel" "at" "[I") (List.mem_of_getElem? (i := 1) rfl)) (fun _ h9 => h9) rfl dX11_warned_38 ?_
                refine lv_iconst (v := 0) hx hb dX11_warned_41 (by decide) ?_
                refine va_iald hx hb hK hP 1 1 rfl rfl (inb_in (by decide)) dX11_warned_42 ?_
                refine lv_icmp_ge (tgt := 75) hx hb dX11_warned_43 (by decide) (fun c8 => ?_) (fun c8 => ?_)
                · replace h := (if_pos c8).symm.trans h
                  have eo := hst _ (Option.some.inj h).symm
                  subst eo
                  exact kk75 H locs ls (lv_sub hl [0, 1, 2, 3, 4] rfl) hP hD hS
                · replace h := (if_neg c8).symm.trans h
                  refine lv_iload hx hb dX11_warned_46 (lv_at hl 4 rfl) ?_
                  refine lv_if_ne (tgt := 62) hx hb dX11_warned_48 (by decide) (fun c9 => ?_) (fun c9 => ?_)
                  · replace h := (if_neg c9).symm.trans h
                    refine lv_iconst (v := 1) hx hb dX11_warned_62 (by decide) ?_
                    refine lv_goto (tgt := 67) hx hb dX11_warned_63 (by decide) ?_
                    refine lv_istore (lv' := [(4, .int (1 : Int32)), (0, .ref h0), (1, .int p1), (2, .int q19.1), (3, .int q19.2), (5, .int q35.2)]) hx hb dX11_warned_67 hl (by decide) rfl (fun ls hl => ?_)
                    refine lv_iinc (v := (q35.2 + (1 : Int32))) (lv' := [(5, .int (q35.2 + (1 : Int32))), (4, .int (1 : Int32)), (0, .ref h0), (1, .int p1), (2, .int q19.1), (3, .int q19.2)]) hx hb dX11_warned_69 hl (k := 5) rfl rfl (by decide) rfl (fun ls hl => ?_)
                    refine lv_goto (tgt := 35) hx hb dX11_warned_72 (by decide) ?_
                    exact ih _ o (hgo _ (Option.some.inj h).symm) H locs ls (lv_sub hl [2, 3, 4, 5, 1, 0] rfl) hP hD hS kk75
                  · replace h := (if_pos c9).symm.trans h
                    refine lv_aload_n hx hb dX11_warned_51 rfl (lv_at hl 0 rfl) ?_
                    refine lv_iload hx hb dX11_warned_52 (lv_at hl 5 rfl) ?_
                    refine lv_iload_n hx hb dX11_warned_54 rfl (lv_at hl 3 rfl) ?_
                    obtain ⟨r10, hr10, h⟩ := bd_elim h
                    refine ca_i (w' := WX11 cy h0 a0 s0) (rn_V (As := [.int q35.2, .int q19.2]) (rest := []) ⟨hx, hb, hml, hown, hts⟩ (kX11_tellOf l D cy h0 a0 s0 q35.2 q19.2 r10 hr10 H.size) (cwV 2 hts gX11_warned_X11_tellOf rfl rfl rfl (by decide +kernel) ⟨Nat.le_of_ble_eq_true rfl, Nat.le_of_ble_eq_true rfl⟩) hK hN hP hD [0, 1, 2, 3, 4, 5, 6, 7, 8, 9, 10, 11, 12, 13] rfl rfl (ci := 11) (q0 := 0) rfl rfl rfl rfl hl.1 rfl (Nat.le_of_ble_eq_true rfl) dX11_warned_55 ⟨Nat.le_refl 0, Nat.le_refl 0⟩) hP hD hS hA [0, 1, 2, 3, 4, 5, 6, 7, 8, 9, 10, 11, 12, 13] ⟨rfl, rfl, rfl, rfl⟩ (fun H locs hP hD hS => ?_)
                    refine lv_iconst (v := 1) hx hb dX11_warned_58 (by decide) ?_
                    refine lv_icmp_ne (tgt := 66) hx hb dX11_warned_59 (by decide) (fun c11 => ?_) (fun c11 => ?_)
                    · replace h := (if_neg c11).symm.trans h
                      refine lv_iconst (v := 0) hx hb dX11_warned_66 (by decide) ?_
                      refine lv_istore (lv' := [(4, .int (0 : Int32)), (0, .ref h0), (1, .int p1), (2, .int q19.1), (3, .int q19.2), (5, .int q35.2)]) hx hb dX11_warned_67 hl (by decide) rfl (fun ls hl => ?_)
                      refine lv_iinc (v := (q35.2 + (1 : Int32))) (lv' := [(5, .int (q35.2 + (1 : Int32))), (4, .int (0 : Int32)), (0, .ref h0), (1, .int p1), (2, .int q19.1), (3, .int q19.2)]) hx hb dX11_warned_69 hl (k := 5) rfl rfl (by decide) rfl (fun ls hl => ?_)
                      refine lv_goto (tgt := 35) hx hb dX11_warned_72 (by decide) ?_
                      exact ih _ o (hgo _ (Option.some.inj h).symm) H locs ls (lv_sub hl [2, 3, 4, 5, 1, 0] rfl) hP hD hS kk75
                    · replace h := (if_pos c11).symm.trans h
                      refine lv_iconst (v := 1) hx hb dX11_warned_62 (by decide) ?_
                      refine lv_goto (tgt := 67) hx hb dX11_warned_63 (by decide) ?_
                      refine lv_istore (lv' := [(4, .int (1 : Int32)), (0, .ref h0), (1, .int p1), (2, .int q19.1), (3, .int q19.2), (5, .int q35.2)]) hx hb dX11_warned_67 hl (by decide) rfl (fun ls hl => ?_)
                      refine lv_iinc (v := (q35.2 + (1 : Int32))) (lv' := [(5, .int (q35.2 + (1 : Int32))), (4, .int (1 : Int32)), (0, .ref h0), (1, .int p1), (2, .int q19.1), (3, .int q19.2)]) hx hb dX11_warned_69 hl (k := 5) rfl rfl (by decide) rfl (fun ls hl => ?_)
                      refine lv_goto (tgt := 35) hx hb dX11_warned_72 (by decide) ?_
                      exact ih _ o (hgo _ (Option.some.inj h).symm) H locs ls (lv_sub hl [2, 3, 4, 5, 1, 0] rfl) hP hD hS kk75
            obtain ⟨o35, ho35, h⟩ := bd_elim h
            obtain ⟨n35, hn35⟩ := loopF_some ho35
            refine L35 n35 _ o35 hn35 H locs ls (lv_sub hl [2, 3, 4, 5, 1, 0] rfl) hP hD hS (fun H locs ls hl hP hD hS => ?_)
            refine lv_iload_n hx hb dX11_warned_75 rfl (lv_at hl 2 rfl) ?_
            refine lv_aload_n hx hb dX11_warned_76 rfl (lv_at hl 0 rfl) ?_
            refine lv_iload_n hx hb dX11_warned_77 rfl (lv_at hl 3 rfl) ?_
            obtain ⟨r12, hr12, h⟩ := bd_elim h
            refine ca_z (w' := WX11 cy h0 a0 s0) (rn_V (As := [.int q19.2]) (rest := [.int q19.1]) ⟨hx, hb, hml, hown, hts⟩ (kX11_isWet l D cy h0 a0 s0 q19.2 r12 hr12 H.size) (cwV 1 hts gX11_warned_X11_isWet rfl rfl rfl (by decide +kernel) ⟨Nat.le_of_ble_eq_true rfl, Nat.le_of_ble_eq_true rfl⟩) hK hN hP hD [0, 1, 2, 3, 4, 5, 6, 7, 8, 9, 10, 11, 12, 13] rfl rfl (ci := 11) (q0 := 0) rfl rfl rfl rfl hl.1 rfl (Nat.le_of_ble_eq_true rfl) dX11_warned_78 ⟨Nat.le_refl 0, Nat.le_refl 0⟩) hP hD hS hA [0, 1, 2, 3, 4, 5, 6, 7, 8, 9, 10, 11, 12, 13] ⟨rfl, rfl, rfl, rfl⟩ (fun b13 H locs hP hD hS => ?_)
            refine lv_if_eq (tgt := 102) hx hb dX11_warned_81 (by decide) (fun c14 => ?_) (fun c14 => ?_)
            · replace h := (if_pos c14).symm.trans h
              refine lv_iconst (v := 0) hx hb dX11_warned_102 (by decide) ?_
              refine lv_iadd hx hb dX11_warned_103 ?_
              refine lv_topi (fun x15 ex15 => ?_)
              replace h := lt_use h x15 ex15
              refine lv_istore_n (lv' := [(2, .int x15), (0, .ref h0), (1, .int p1), (3, .int q19.2), (4, .int o35)]) hx hb dX11_warned_104 rfl hl (by decide) rfl (fun ls hl => ?_)
              refine lv_iinc (v := (q19.2 + (1 : Int32))) (lv' := [(3, .int (q19.2 + (1 : Int32))), (2, .int x15), (0, .ref h0), (1, .int p1), (4, .int o35)]) hx hb dX11_warned_105 hl (k := 3) rfl rfl (by decide) rfl (fun ls hl => ?_)
              refine lv_goto (tgt := 19) hx hb dX11_warned_108 (by decide) ?_
              exact ih _ o (hgo _ (Option.some.inj h).symm) H locs ls (lv_sub hl [2, 3, 1, 0] rfl) hP hD hS kk111
            · replace h := (if_neg c14).symm.trans h
              refine lv_iload hx hb dX11_warned_84 (lv_at hl 4 rfl) ?_
              refine lv_iload_n hx hb dX11_warned_86 rfl (lv_at hl 1 rfl) ?_
              refine lv_if_ne (tgt := 94) hx hb dX11_warned_87 (by decide) (fun c16 => ?_) (fun c16 => ?_)
              · replace h := (if_neg c16).symm.trans h
                refine lv_iconst (v := 0) hx hb dX11_warned_94 (by decide) ?_
                exact J95 q19.2 (0 : Int32) o35 q19.1 H locs ls (lv_sub hl [0, 1, 3] rfl) hP hD hS h
              · replace h := (if_pos c16).symm.trans h
                refine lv_iconst (v := 1) hx hb dX11_warned_90 (by decide) ?_
                refine lv_goto (tgt := 95) hx hb dX11_warned_91 (by decide) ?_
                exact J95 q19.2 (1 : Int32) o35 q19.1 H locs ls (lv_sub hl [0, 1, 3] rfl) hP hD hS h
      obtain ⟨o19, ho19, h⟩ := bd_elim h
      obtain ⟨n19, hn19⟩ := loopF_some ho19
      refine L19 n19 _ o19 hn19 H locs ls (lv_sub hl [2, 3, 1, 0] rfl) hP hD hS (fun H locs ls hl hP hD hS => ?_)
      refine lv_aload_n hx hb dX11_warned_111 rfl (lv_at hl 0 rfl) ?_
      refine lv_iload_n hx hb dX11_warned_112 rfl (lv_at hl 1 rfl) ?_
      obtain ⟨r17, hr17, h⟩ := lt_elim h
      refine ca_i (w' := WX11 cy h0 a0 r17.2) (rn_V (As := [.int o19]) (rest := []) ⟨hx, hb, hml, hown, hts⟩ (kX11_gives l D cy h0 a0 s0 o19 r17 hr17.symm H.size) (cwV 1 hts gX11_warned_X11_gives rfl rfl rfl (by decide +kernel) ⟨Nat.le_of_ble_eq_true rfl, Nat.le_of_ble_eq_true rfl⟩) hK hN hP hD [0, 1, 2, 3, 4, 5, 6, 7, 8, 9, 10, 11, 12, 13] rfl rfl (ci := 11) (q0 := 0) rfl rfl rfl rfl hl.1 rfl (Nat.le_of_ble_eq_true rfl) dX11_warned_113 ⟨Nat.le_refl 0, Nat.le_refl 0⟩) hP hD hS hA [0, 1, 2, 3, 4, 5, 6, 7, 8, 9, 10, 11, 12, 13] ⟨rfl, rfl, rfl, rfl⟩ (fun H locs hP hD hS => ?_)
      exact hret 116 H locs ls (r17.1, r17.2) (Option.some.inj h) hP hD hS dX11_warned_116
    · replace h := (if_neg c3).symm.trans h
      refine lv_aload_n hx hb dX11_warned_9 rfl (lv_at hl 0 rfl) ?_
      refine lv_iconst (v := 1) hx hb dX11_warned_10 (by decide) ?_
      obtain ⟨r18, hr18, h⟩ := lt_elim h
      refine ca_i (w' := WX11 cy h0 a0 r18.2) (rn_V (As := [.int (1 : Int32)]) (rest := []) ⟨hx, hb, hml, hown, hts⟩ (kX11_refuse l D cy h0 a0 s0 (1 : Int32) r18 hr18.symm H.size) (cwV 1 hts gX11_warned_X11_refuse rfl rfl rfl (by decide +kernel) ⟨Nat.le_of_ble_eq_true rfl, Nat.le_of_ble_eq_true rfl⟩) hK hN hP hD [0, 1, 2, 3, 4, 5, 6, 7, 8, 9, 10, 11, 12, 13] rfl rfl (ci := 11) (q0 := 0) rfl rfl rfl rfl hl.1 rfl (Nat.le_of_ble_eq_true rfl) dX11_warned_11 ⟨Nat.le_refl 0, Nat.le_refl 0⟩) hP hD hS hA [0, 1, 2, 3, 4, 5, 6, 7, 8, 9, 10, 11, 12, 13] ⟨rfl, rfl, rfl, rfl⟩ (fun H locs hP hD hS => ?_)
      exact hret 14 H locs ls (r18.1, r18.2) (Option.some.inj h) hP hD hS dX11_warned_14
set_option maxRecDepth 20000 in
theorem ggX11_weather_X11_isDay : GoodIn wsX11_weather wsX11_isDay := goodIn_r _ [6, 1, 16, 17, 18, 19, 20, 21, 22, 23, 24, 25, 26, 27, 28, 29, 30, 31, 32, 33, 34, 35, 36, 37, 38, 39, 40, 41, 42, 43, 44, 45, 46, 47, 48, 49, 50, 51, 52, 53] (by decide +kernel) (by decide +kernel)
set_option maxRecDepth 20000 in
theorem gX11_weather_X11_isDay : GoodIn wsX11_weather (wsV RX11 255 RX11 yX11_isDay wsX11_isDay) := goodIn_app (goodIn_of _ (by decide +kernel)) ggX11_weather_X11_isDay
set_option maxRecDepth 20000 in
theorem ggX11_weather_X11_gives : GoodIn wsX11_weather wsX11_gives := goodIn_r _ [10, 11, 16, 17, 18, 19, 20, 21, 22, 23, 24, 25, 26, 27, 28, 29, 30, 31, 32, 33, 34, 35, 36, 37, 38, 39, 40, 41, 42, 43, 44, 45, 46, 47, 48, 49, 50, 51, 52, 53] (by decide +kernel) (by decide +kernel)
set_option maxRecDepth 20000 in
theorem gX11_weather_X11_gives : GoodIn wsX11_weather (wsV RX11 79 RX11 yX11_gives wsX11_gives) := goodIn_app (goodIn_of _ (by decide +kernel)) ggX11_weather_X11_gives
set_option maxRecDepth 20000 in
theorem ggX11_weather_X11_refuse : GoodIn wsX11_weather wsX11_refuse := goodIn_r _ [15, 11, 16, 17, 18, 19, 20, 21, 22, 23, 24, 25, 26, 27, 28, 29, 30, 31, 32, 33, 34, 35, 36, 37, 38, 39, 40, 41, 42, 43, 44, 45, 46, 47, 48, 49, 50, 51, 52, 53] (by decide +kernel) (by decide +kernel)
set_option maxRecDepth 20000 in
theorem gX11_weather_X11_refuse : GoodIn wsX11_weather (wsV RX11 75 RX11 yX11_refuse wsX11_refuse) := goodIn_app (goodIn_of _ (by decide +kernel)) ggX11_weather_X11_refuse
theorem dX11_weather_0 : decode cX11_weather 0 = .ok (.aload_n 0, 1) := by decide +kernel
theorem dX11_weather_1 : decode cX11_weather 1 = .ok (.iload_n 1, 1) := by decide +kernel
theorem dX11_weather_2 : decode cX11_weather 2 = .ok (.invokevirtual 255, 3) := by decide +kernel
theorem dX11_weather_5 : decode cX11_weather 5 = .ok (.ifCond .eq 19, 3) := by decide +kernel
theorem dX11_weather_8 : decode cX11_weather 8 = .ok (.aload_n 0, 1) := by decide +kernel
theorem dX11_weather_9 : decode cX11_weather 9 = .ok (.aload_n 0, 1) := by decide +kernel
theorem dX11_weather_10 : decode cX11_weather 10 = .ok (.getfield 7, 3) := by decide +kernel
theorem dX11_weather_13 : decode cX11_weather 13 = .ok (.bipush 122, 2) := by decide +kernel
theorem dX11_weather_15 : decode cX11_weather 15 = .ok (.iload_n 1, 1) := by decide +kernel
theorem dX11_weather_16 : decode cX11_weather 16 = .ok (.iadd, 1) := by decide +kernel
theorem dX11_weather_17 : decode cX11_weather 17 = .ok (.iaload, 1) := by decide +kernel
theorem dX11_weather_18 : decode cX11_weather 18 = .ok (.invokevirtual 79, 3) := by decide +kernel
theorem dX11_weather_21 : decode cX11_weather 21 = .ok (.goto 8, 3) := by decide +kernel
theorem dX11_weather_24 : decode cX11_weather 24 = .ok (.aload_n 0, 1) := by decide +kernel
theorem dX11_weather_25 : decode cX11_weather 25 = .ok (.iconst 1, 1) := by decide +kernel
theorem dX11_weather_26 : decode cX11_weather 26 = .ok (.invokevirtual 75, 3) := by decide +kernel
theorem dX11_weather_29 : decode cX11_weather 29 = .ok (.ireturn, 1) := by decide +kernel
noncomputable def fX11_weather (p1 : Int32) (s0 : Rc) : Option (Int32 × Rc) :=
if (fX11_isDay p1 s0) = (0 : Int32) then (
lt_ (fX11_refuse (1 : Int32) s0) (fun r3 =>
some (r3.1, r3.2))) else (
gd (inb ((122 : Int32) + p1) 6240) (
lt_ (fX11_gives (ga s0 0 ((122 : Int32) + p1).toNatClampNeg) s0) (fun r5 =>
some (r5.1, r5.2))))
abbrev rmX11_weather : Room := { frames := 1, cells := 0, slots := 0, locals := 21 }
set_option maxHeartbeats 4000000 in
set_option maxRecDepth 100000 in
theorem kX11_weather (l : Launch) (D : va_G) (cy : Nat → ClassId) (h0 : Nat) (a0 : Nat → Nat) (s0 : Rc) (p1 : Int32) (res : Int32 × Rc) (h : fX11_weather p1 s0 = some res) : CI l D cy yX11_weather wsX11_weather rmX11_weather [.ref h0, .int p1] (WX11 cy h0 a0 s0) (WX11 cy h0 a0 res.2) res.1 := by
  refine CI.of (cc := cX11_weather) (maxL := 2) (by decide) rfl (Nat.le_of_ble_eq_true rfl) ?_
  intro p e s m args below meth c A QQ ls E hr
  obtain ⟨hx, hb, hml, hown, hts, hK, hN, hP, hD, hA, hl⟩ := E
  have hret : ∀ (pc : Nat) (H : Heap) (locs : List Loc) (ls : Array Slot) (u : Int32 × Rc), u = res → va_P D vwCl (WX11 cy h0 a0 u.2) H → va_D A (WX11 cy h0 a0 u.2) → va_S A s.heap H locs → decode cX11_weather pc = .ok (.ireturn, 1) → W p l e rmX11_weather s m args below meth c H locs 0 0 QQ (F0 m pc ls [.int u.1]) := by
    intro pc H locs ls u hu hP hD hS hd; subst hu; exact hr pc H locs ls _ rfl hP hD hS hd
  clear hr
  have hl : lv_has ls 2 [(0, .ref h0), (1, .int p1)] := hl
  have hinX11 : ∀ w ∈ wsX110, w ∈ wsX11_weather := fun _ h => List.mem_cons_of_mem _ (List.mem_append_right _ h)
  unfold fX11_weather at h
  suffices key : ∀ (H : Heap) (locs : List Loc), va_P D vwCl (WX11 cy h0 a0 s0) H → va_S A s.heap H locs → W p l e rmX11_weather s m args below meth c H locs 0 0 QQ (F0 m 0 ls []) from key _ _ hP va_S.rf
  clear hP
  intro H locs hP hS
  refine lv_aload_n hx hb dX11_weather_0 rfl (lv_at hl 0 rfl) ?_
  refine lv_iload_n hx hb dX11_weather_1 rfl (lv_at hl 1 rfl) ?_
  refine ca_z (w' := WX11 cy h0 a0 s0) (rn_V (As := [.int p1]) (rest := []) ⟨hx, hb, hml, hown, hts⟩ (kX11_isDay l D cy h0 a0 s0 p1 _ rfl H.size) (cwV 1 hts gX11_weather_X11_isDay rfl rfl rfl (by decide +kernel) ⟨Nat.le_of_ble_eq_true rfl, Nat.le_of_ble_eq_true rfl⟩) hK hN hP hD [0, 1, 2, 3, 4, 5, 6, 7, 8, 9, 10, 11, 12, 13] rfl rfl (ci := 11) (q0 := 0) rfl rfl rfl rfl hl.1 rfl (Nat.le_of_ble_eq_true rfl) dX11_weather_2 ⟨Nat.le_refl 0, Nat.le_refl 0⟩) hP hD hS hA [0, 1, 2, 3, 4, 5, 6, 7, 8, 9, 10, 11, 12, 13] ⟨rfl, rfl, rfl, rfl⟩ (fun b1 H locs hP hD hS => ?_)
  refine lv_if_eq (tgt := 24) hx hb dX11_weather_5 (by decide) (fun c2 => ?_) (fun c2 => ?_)
  · replace h := (if_pos c2).symm.trans h
    refine lv_aload_n hx hb dX11_weather_24 rfl (lv_at hl 0 rfl) ?_
    refine lv_iconst (v := 1) hx hb dX11_weather_25 (by decide) ?_
    obtain ⟨r3, hr3, h⟩ := lt_elim h
    refine ca_i (w' := WX11 cy h0 a0 r3.2) (rn_V (As := [.int (1 : Int32)]) (rest := []) ⟨hx, hb, hml, hown, hts⟩ (kX11_refuse l D cy h0 a0 s0 (1 : Int32) r3 hr3.symm H.size) (cwV 1 hts gX11_weather_X11_refuse rfl rfl rfl (by decide +kernel) ⟨Nat.le_of_ble_eq_true rfl, Nat.le_of_ble_eq_true rfl⟩) hK hN hP hD [0, 1, 2, 3, 4, 5, 6, 7, 8, 9, 10, 11, 12, 13] rfl rfl (ci := 11) (q0 := 0) rfl rfl rfl rfl hl.1 rfl (Nat.le_of_ble_eq_true rfl) dX11_weather_26 ⟨Nat.le_refl 0, Nat.le_refl 0⟩) hP hD hS hA [0, 1, 2, 3, 4, 5, 6, 7, 8, 9, 10, 11, 12, 13] ⟨rfl, rfl, rfl, rfl⟩ (fun H locs hP hD hS => ?_)
    exact hret 29 H locs ls (r3.1, r3.2) (Option.some.inj h) hP hD hS dX11_weather_29
  · replace h := (if_neg c2).symm.trans h
    refine lv_aload_n hx hb dX11_weather_8 rfl (lv_at hl 0 rfl) ?_
    refine lv_aload_n hx hb dX11_weather_9 rfl (lv_at hl 0 rfl) ?_
    refine va_get (D := D) (ci := 11) (v := .ref (a0 0)) (C := RX11) (T := TX11) (N := 38) hx hb hts hinX11 hown hK hP 0 rfl rfl 0 (by decide) (hts (.fieldLink RX11 7 "KneeBenchModel" "at" "[I") (List.mem_of_getElem? (i := 1) rfl)) (fun _ h9 => h9) rfl dX11_weather_10 ?_
    refine lv_bipush (v := 122) hx hb dX11_weather_13 (by decide) ?_
    refine lv_iload_n hx hb dX11_weather_15 rfl (lv_at hl 1 rfl) ?_
    refine lv_iadd hx hb dX11_weather_16 ?_
    obtain ⟨g4, h⟩ := gd_elim h
    refine va_iald hx hb hK hP 1 1 rfl rfl (inb_in g4) dX11_weather_17 ?_
    obtain ⟨r5, hr5, h⟩ := lt_elim h
    refine ca_i (w' := WX11 cy h0 a0 r5.2) (rn_V (As := [.int (ga s0 0 ((122 : Int32) + p1).toNatClampNeg)]) (rest := []) ⟨hx, hb, hml, hown, hts⟩ (kX11_gives l D cy h0 a0 s0 (ga s0 0 ((122 : Int32) + p1).toNatClampNeg) r5 hr5.symm H.size) (cwV 1 hts gX11_weather_X11_gives rfl rfl rfl (by decide +kernel) ⟨Nat.le_of_ble_eq_true rfl, Nat.le_of_ble_eq_true rfl⟩) hK hN hP hD [0, 1, 2, 3, 4, 5, 6, 7, 8, 9, 10, 11, 12, 13] rfl rfl (ci := 11) (q0 := 0) rfl rfl rfl rfl hl.1 rfl (Nat.le_of_ble_eq_true rfl) dX11_weather_18 ⟨Nat.le_refl 0, Nat.le_refl 0⟩) hP hD hS hA [0, 1, 2, 3, 4, 5, 6, 7, 8, 9, 10, 11, 12, 13] ⟨rfl, rfl, rfl, rfl⟩ (fun H locs hP hD hS => ?_)
    refine lv_goto (tgt := 29) hx hb dX11_weather_21 (by decide) ?_
    exact hret 29 H locs ls (r5.1, r5.2) (Option.some.inj h) hP hD hS dX11_weather_29
