theorem dX11_behindEnds_0 : decode cX11_behindEnds 0 = .ok (.iload_n 1, 1) := by decide +kernel
theorem dX11_behindEnds_1 : decode cX11_behindEnds 1 = .ok (.istore_n 2, 1) := by decide +kernel
theorem dX11_behindEnds_2 : decode cX11_behindEnds 2 = .ok (.iload_n 2, 1) := by decide +kernel
theorem dX11_behindEnds_3 : decode cX11_behindEnds 3 = .ok (.aload_n 0, 1) := by decide +kernel
theorem dX11_behindEnds_4 : decode cX11_behindEnds 4 = .ok (.getfield 7, 3) := by decide +kernel
theorem dX11_behindEnds_7 : decode cX11_behindEnds 7 = .ok (.iconst 3, 1) := by decide +kernel
theorem dX11_behindEnds_8 : decode cX11_behindEnds 8 = .ok (.iaload, 1) := by decide +kernel
theorem dX11_behindEnds_9 : decode cX11_behindEnds 9 = .ok (.if_icmp .ge 108, 3) := by decide +kernel
theorem dX11_behindEnds_12 : decode cX11_behindEnds 12 = .ok (.aload_n 0, 1) := by decide +kernel
theorem dX11_behindEnds_13 : decode cX11_behindEnds 13 = .ok (.getfield 7, 3) := by decide +kernel
theorem dX11_behindEnds_16 : decode cX11_behindEnds 16 = .ok (.sipush 670, 3) := by decide +kernel
theorem dX11_behindEnds_19 : decode cX11_behindEnds 19 = .ok (.bipush 6, 2) := by decide +kernel
theorem dX11_behindEnds_21 : decode cX11_behindEnds 21 = .ok (.iload_n 2, 1) := by decide +kernel
theorem dX11_behindEnds_22 : decode cX11_behindEnds 22 = .ok (.imul, 1) := by decide +kernel
theorem dX11_behindEnds_23 : decode cX11_behindEnds 23 = .ok (.iadd, 1) := by decide +kernel
theorem dX11_behindEnds_24 : decode cX11_behindEnds 24 = .ok (.iaload, 1) := by decide +kernel
theorem dX11_behindEnds_25 : decode cX11_behindEnds 25 = .ok (.bipush 25, 2) := by decide +kernel
theorem dX11_behindEnds_27 : decode cX11_behindEnds 27 = .ok (.if_icmp .ne 90, 3) := by decide +kernel
theorem dX11_behindEnds_30 : decode cX11_behindEnds 30 = .ok (.aload_n 0, 1) := by decide +kernel
theorem dX11_behindEnds_31 : decode cX11_behindEnds 31 = .ok (.getfield 7, 3) := by decide +kernel
theorem dX11_behindEnds_34 : decode cX11_behindEnds 34 = .ok (.sipush 670, 3) := by decide +kernel
theorem dX11_behindEnds_37 : decode cX11_behindEnds 37 = .ok (.bipush 6, 2) := by decide +kernel
theorem dX11_behindEnds_39 : decode cX11_behindEnds 39 = .ok (.iload_n 2, 1) := by decide +kernel
theorem dX11_behindEnds_40 : decode cX11_behindEnds 40 = .ok (.imul, 1) := by decide +kernel
theorem dX11_behindEnds_41 : decode cX11_behindEnds 41 = .ok (.iadd, 1) := by decide +kernel
theorem dX11_behindEnds_42 : decode cX11_behindEnds 42 = .ok (.iconst 4, 1) := by decide +kernel
theorem dX11_behindEnds_43 : decode cX11_behindEnds 43 = .ok (.iadd, 1) := by decide +kernel
theorem dX11_behindEnds_44 : decode cX11_behindEnds 44 = .ok (.iaload, 1) := by decide +kernel
theorem dX11_behindEnds_45 : decode cX11_behindEnds 45 = .ok (.istore_n 3, 1) := by decide +kernel
theorem dX11_behindEnds_46 : decode cX11_behindEnds 46 = .ok (.aload_n 0, 1) := by decide +kernel
theorem dX11_behindEnds_47 : decode cX11_behindEnds 47 = .ok (.getfield 7, 3) := by decide +kernel
theorem dX11_behindEnds_50 : decode cX11_behindEnds 50 = .ok (.sipush 670, 3) := by decide +kernel
theorem dX11_behindEnds_53 : decode cX11_behindEnds 53 = .ok (.bipush 6, 2) := by decide +kernel
theorem dX11_behindEnds_55 : decode cX11_behindEnds 55 = .ok (.iload_n 3, 1) := by decide +kernel
theorem dX11_behindEnds_56 : decode cX11_behindEnds 56 = .ok (.imul, 1) := by decide +kernel
theorem dX11_behindEnds_57 : decode cX11_behindEnds 57 = .ok (.iadd, 1) := by decide +kernel
theorem dX11_behindEnds_58 : decode cX11_behindEnds 58 = .ok (.iaload, 1) := by decide +kernel
theorem dX11_behindEnds_59 : decode cX11_behindEnds 59 = .ok (.bipush 24, 2) := by decide +kernel
theorem dX11_behindEnds_61 : decode cX11_behindEnds 61 = .ok (.if_icmp .ne 16, 3) := by decide +kernel
theorem dX11_behindEnds_64 : decode cX11_behindEnds 64 = .ok (.aload_n 0, 1) := by decide +kernel
theorem dX11_behindEnds_65 : decode cX11_behindEnds 65 = .ok (.getfield 56, 3) := by decide +kernel
theorem dX11_behindEnds_68 : decode cX11_behindEnds 68 = .ok (.iload_n 3, 1) := by decide +kernel
theorem dX11_behindEnds_69 : decode cX11_behindEnds 69 = .ok (.iaload, 1) := by decide +kernel
theorem dX11_behindEnds_70 : decode cX11_behindEnds 70 = .ok (.ifCond .le 7, 3) := by decide +kernel
theorem dX11_behindEnds_73 : decode cX11_behindEnds 73 = .ok (.iconst 1, 1) := by decide +kernel
theorem dX11_behindEnds_74 : decode cX11_behindEnds 74 = .ok (.goto 4, 3) := by decide +kernel
theorem dX11_behindEnds_77 : decode cX11_behindEnds 77 = .ok (.iconst 0, 1) := by decide +kernel
theorem dX11_behindEnds_78 : decode cX11_behindEnds 78 = .ok (.istore 4, 2) := by decide +kernel
theorem dX11_behindEnds_80 : decode cX11_behindEnds 80 = .ok (.aload_n 0, 1) := by decide +kernel
theorem dX11_behindEnds_81 : decode cX11_behindEnds 81 = .ok (.getfield 56, 3) := by decide +kernel
theorem dX11_behindEnds_84 : decode cX11_behindEnds 84 = .ok (.iload_n 3, 1) := by decide +kernel
theorem dX11_behindEnds_85 : decode cX11_behindEnds 85 = .ok (.dup2, 1) := by decide +kernel
theorem dX11_behindEnds_86 : decode cX11_behindEnds 86 = .ok (.iaload, 1) := by decide +kernel
theorem dX11_behindEnds_87 : decode cX11_behindEnds 87 = .ok (.iload 4, 2) := by decide +kernel
theorem dX11_behindEnds_89 : decode cX11_behindEnds 89 = .ok (.ifCond .eq 7, 3) := by decide +kernel
theorem dX11_behindEnds_92 : decode cX11_behindEnds 92 = .ok (.iconst 1, 1) := by decide +kernel
theorem dX11_behindEnds_93 : decode cX11_behindEnds 93 = .ok (.goto 4, 3) := by decide +kernel
theorem dX11_behindEnds_96 : decode cX11_behindEnds 96 = .ok (.iconst 0, 1) := by decide +kernel
theorem dX11_behindEnds_97 : decode cX11_behindEnds 97 = .ok (.isub, 1) := by decide +kernel
theorem dX11_behindEnds_98 : decode cX11_behindEnds 98 = .ok (.iastore, 1) := by decide +kernel
theorem dX11_behindEnds_99 : decode cX11_behindEnds 99 = .ok (.iload 4, 2) := by decide +kernel
theorem dX11_behindEnds_101 : decode cX11_behindEnds 101 = .ok (.ifCond .eq 9, 3) := by decide +kernel
theorem dX11_behindEnds_104 : decode cX11_behindEnds 104 = .ok (.iload_n 3, 1) := by decide +kernel
theorem dX11_behindEnds_105 : decode cX11_behindEnds 105 = .ok (.iconst 1, 1) := by decide +kernel
theorem dX11_behindEnds_106 : decode cX11_behindEnds 106 = .ok (.iadd, 1) := by decide +kernel
theorem dX11_behindEnds_107 : decode cX11_behindEnds 107 = .ok (.goto 6, 3) := by decide +kernel
theorem dX11_behindEnds_110 : decode cX11_behindEnds 110 = .ok (.iload_n 2, 1) := by decide +kernel
theorem dX11_behindEnds_111 : decode cX11_behindEnds 111 = .ok (.iconst 1, 1) := by decide +kernel
theorem dX11_behindEnds_112 : decode cX11_behindEnds 112 = .ok (.iadd, 1) := by decide +kernel
theorem dX11_behindEnds_113 : decode cX11_behindEnds 113 = .ok (.istore_n 2, 1) := by decide +kernel
theorem dX11_behindEnds_114 : decode cX11_behindEnds 114 = .ok (.goto (-112), 3) := by decide +kernel
theorem dX11_behindEnds_117 : decode cX11_behindEnds 117 = .ok (.iload_n 2, 1) := by decide +kernel
theorem dX11_behindEnds_118 : decode cX11_behindEnds 118 = .ok (.ireturn, 1) := by decide +kernel
abbrev rmX11_behindEnds : Room := { frames := 0, cells := 0, slots := 0, locals := 0 }
set_option maxHeartbeats 4000000 in
set_option maxRecDepth 100000 in
theorem kX11_behindEnds (l : Launch) (D : va_G) (cy : Nat → ClassId) (h0 : Nat) (a0 : Nat → Nat) (s0 : Rc) (p1 : Int32) (res : Int32 × Rc) (h : fX11_behindEnds p1 s0 = some res) : CI l D cy yX11_behindEnds wsX11_behindEnds rmX11_behindEnds [.ref h0, .int p1] (flat [WX11 cy h0 a0 s0]) (flat [WX11 cy h0 a0 res.2]) res.1 := by
  refine CI.of (cc := cX11_behindEnds) (maxL := 5) (by decide) rfl (Nat.le_of_ble_eq_true rfl) ?_
  intro p e s m args below meth c A QQ ls E hr
  obtain ⟨hx, hb, hml, hown, hts, hK, hN, hP, hD, hA, hl⟩ := E
  have hret : ∀ (pc : Nat) (H : Heap) (locs : List Loc) (ls : Array Slot) (u : Int32 × Rc), u = res → va_P D vwCl (flat [WX11 cy h0 a0 u.2]) H → va_D A (flat [WX11 cy h0 a0 u.2]) → va_S A s.heap H locs → decode cX11_behindEnds pc = .ok (.ireturn, 1) → W p l e rmX11_behindEnds s m args below meth c H locs 0 0 QQ (F0 m pc ls [.int u.1]) := by
    intro pc H locs ls u hu hP hD hS hd; subst hu; exact hr pc H locs ls _ rfl hP hD hS hd
  clear hr
  have hl : lv_has ls 5 [(0, .ref h0), (1, .int p1)] := hl
  have hinX11 : ∀ w ∈ wsX110, w ∈ wsX11_behindEnds := fun _ h => List.mem_cons_of_mem _ (List.mem_append_right _ h)
  unfold fX11_behindEnds at h
  suffices key : ∀ (H : Heap) (locs : List Loc), va_P D vwCl (flat [WX11 cy h0 a0 s0]) H → va_S A s.heap H locs → W p l e rmX11_behindEnds s m args below meth c H locs 0 0 QQ (F0 m 0 ls []) from key _ _ hP va_S.rf
  clear hP
  intro H locs hP hS
  refine lv_iload_n hx hb dX11_behindEnds_0 rfl (lv_at hl 1 rfl) ?_
  refine lv_istore_n (lv' := [(2, .int p1), (0, .ref h0), (1, .int p1)]) hx hb dX11_behindEnds_1 rfl hl (by decide) rfl (fun ls hl => ?_)
  have L2 : ∀ (n : Nat) (q2 : Int32 × Rc) (o : Int32 × Rc), loopO (fX11_behindEnds_L2) n q2 = some o → ∀ (H : Heap) (locs : List Loc) (ls : Array Slot), lv_has ls 5 [(0, .ref h0), (2, .int q2.1)] → va_P D vwCl (flat [WX11 cy h0 a0 q2.2]) H → va_D A (flat [WX11 cy h0 a0 q2.2]) → va_S A s.heap H locs → ∀ (kk117 : ∀ (H : Heap) (locs : List Loc) (ls : Array Slot), lv_has ls 5 [(2, .int o.1)] → va_P D vwCl (flat [WX11 cy h0 a0 o.2]) H → va_D A (flat [WX11 cy h0 a0 o.2]) → va_S A s.heap H locs → W p l e rmX11_behindEnds s m args below meth c H locs 0 0 QQ (F0 m 117 ls [])), W p l e rmX11_behindEnds s m args below meth c H locs 0 0 QQ (F0 m 2 ls []) := by
    intro n
    induction n with
    | zero => intro q2 o h; exact absurd h (by rw [loopO_zero]; intro z; cases z)
    | succ n ih =>
      intro q2 o h H locs ls hl hP hD hS kk117
      obtain ⟨w, h, hgo, hst⟩ := loopO_elim h
      unfold fX11_behindEnds_L2 at h
      have J97 : ∀ (y97_3 : Int32) (y97_4 : Int32) (z97_0 : Int32) (z97_1 : Int32) (z97_2 : Int32) (H : Heap) (locs : List Loc) (ls : Array Slot), lv_has ls 5 [(0, .ref h0), (2, .int q2.1), (3, .int y97_3), (4, .int y97_4)] → va_P D vwCl (flat [WX11 cy h0 a0 q2.2]) H → va_D A (flat [WX11 cy h0 a0 q2.2]) → va_S A s.heap H locs → fX11_behindEnds_J97 q2 y97_3 y97_4 z97_0 z97_1 z97_2 = some w → W p l e rmX11_behindEnds s m args below meth c H locs 0 0 QQ (F0 m 97 ls [.int z97_0, .int z97_1, .int z97_2, .ref (a0 33)]) := by
        intro y97_3 y97_4 z97_0 z97_1 z97_2 H locs ls hl hP hD hS h
        unfold fX11_behindEnds_J97 at h
        refine lv_isub hx hb dX11_behindEnds_97 ?_
        obtain ⟨g1, h⟩ := gd_elim h
        obtain ⟨s0_2, es, h⟩ := lt_elim h
        refine va_iast hx hb hK hP hD hS 11 1 rfl rfl (inb_in g1) dX11_behindEnds_98 (fun H locs hP hD hS => ?_)
        have hP : va_P D vwCl (flat [WX11 cy h0 a0 s0_2]) H := by rw [es]; exact hP
        have hD : va_D A (flat [WX11 cy h0 a0 s0_2]) := by rw [es]; exact hD
        clear es
        refine lv_iload hx hb dX11_behindEnds_99 (lv_at hl 3 rfl) ?_
        refine lv_if_eq (tgt := 110) hx hb dX11_behindEnds_101 (by decide) (fun c3 => ?_) (fun c3 => ?_)
        · replace h := (if_pos c3).symm.trans h
          refine lv_iload_n hx hb dX11_behindEnds_110 rfl (lv_at hl 1 rfl) ?_
          refine lv_iconst (v := 1) hx hb dX11_behindEnds_111 (by decide) ?_
          refine lv_iadd hx hb dX11_behindEnds_112 ?_
          refine lv_topi (fun x4 ex4 => ?_)
          replace h := lt_use h x4 ex4
          refine lv_istore_n (lv' := [(2, .int x4), (0, .ref h0), (3, .int y97_3), (4, .int y97_4)]) hx hb dX11_behindEnds_113 rfl hl (by decide) rfl (fun ls hl => ?_)
          refine lv_goto (tgt := 2) hx hb dX11_behindEnds_114 (by decide) ?_
          exact ih _ o (hgo _ (Option.some.inj h).symm) H locs ls (lv_sub hl [1, 0] rfl) hP hD hS kk117
        · replace h := (if_neg c3).symm.trans h
          refine lv_iload_n hx hb dX11_behindEnds_104 rfl (lv_at hl 2 rfl) ?_
          refine lv_iconst (v := 1) hx hb dX11_behindEnds_105 (by decide) ?_
          refine lv_iadd hx hb dX11_behindEnds_106 ?_
          refine lv_goto (tgt := 113) hx hb dX11_behindEnds_107 (by decide) ?_
          refine lv_topi (fun x5 ex5 => ?_)
          replace h := lt_use h x5 ex5
          refine lv_istore_n (lv' := [(2, .int x5), (0, .ref h0), (3, .int y97_3), (4, .int y97_4)]) hx hb dX11_behindEnds_113 rfl hl (by decide) rfl (fun ls hl => ?_)
          refine lv_goto (tgt := 2) hx hb dX11_behindEnds_114 (by decide) ?_
          exact ih _ o (hgo _ (Option.some.inj h).symm) H locs ls (lv_sub hl [1, 0] rfl) hP hD hS kk117
      have J78 : ∀ (y78_3 : Int32) (z78_0 : Int32) (H : Heap) (locs : List Loc) (ls : Array Slot), lv_has ls 5 [(0, .ref h0), (2, .int q2.1), (3, .int y78_3)] → va_P D vwCl (flat [WX11 cy h0 a0 q2.2]) H → va_D A (flat [WX11 cy h0 a0 q2.2]) → va_S A s.heap H locs → fX11_behindEnds_J78 q2 y78_3 z78_0 = some w → W p l e rmX11_behindEnds s m args below meth c H locs 0 0 QQ (F0 m 78 ls [.int z78_0]) := by
        intro y78_3 z78_0 H locs ls hl hP hD hS h
        unfold fX11_behindEnds_J78 at h
        refine lv_istore (lv' := [(4, .int z78_0), (0, .ref h0), (2, .int q2.1), (3, .int y78_3)]) hx hb dX11_behindEnds_78 hl (by decide) rfl (fun ls hl => ?_)
        refine lv_aload_n hx hb dX11_behindEnds_80 rfl (lv_at hl 1 rfl) ?_
        refine va_get (D := D) (ci := 11) (v := .ref (a0 33)) (C := RX11) (T := TX11) (N := 38) hx hb hts hinX11 hown hK hP 0 rfl rfl 33 (by decide) (hts (.fieldLink RX11 56 "KneeBenchModel" "loops" "[I") (List.mem_of_getElem? (i := 2) rfl)) (fun _ h9 => h9) rfl dX11_behindEnds_81 ?_
        refine lv_iload_n hx hb dX11_behindEnds_84 rfl (lv_at hl 3 rfl) ?_
        refine lv_dup2_11 hx hb dX11_behindEnds_85 rfl rfl ?_
        obtain ⟨g6, h⟩ := gd_elim h
        refine va_iald hx hb hK hP 11 1 rfl rfl (inb_in g6) dX11_behindEnds_86 ?_
        refine lv_iload hx hb dX11_behindEnds_87 (lv_at hl 0 rfl) ?_
        refine lv_if_eq (tgt := 96) hx hb dX11_behindEnds_89 (by decide) (fun c7 => ?_) (fun c7 => ?_)
        · replace h := (if_pos c7).symm.trans h
          refine lv_iconst (v := 0) hx hb dX11_behindEnds_96 (by decide) ?_
          exact J97 y78_3 z78_0 (0 : Int32) (ga q2.2 33 y78_3.toNatClampNeg) y78_3 H locs ls (lv_sub hl [1, 2, 3, 0] rfl) hP hD hS h
        · replace h := (if_neg c7).symm.trans h
          refine lv_iconst (v := 1) hx hb dX11_behindEnds_92 (by decide) ?_
          refine lv_goto (tgt := 97) hx hb dX11_behindEnds_93 (by decide) ?_
          exact J97 y78_3 z78_0 (1 : Int32) (ga q2.2 33 y78_3.toNatClampNeg) y78_3 H locs ls (lv_sub hl [1, 2, 3, 0] rfl) hP hD hS h
      have J77 : ∀ (y77_3 : Int32) (H : Heap) (locs : List Loc) (ls : Array Slot), lv_has ls 5 [(0, .ref h0), (2, .int q2.1), (3, .int y77_3)] → va_P D vwCl (flat [WX11 cy h0 a0 q2.2]) H → va_D A (flat [WX11 cy h0 a0 q2.2]) → va_S A s.heap H locs → fX11_behindEnds_J77 q2 y77_3 = some w → W p l e rmX11_behindEnds s m args below meth c H locs 0 0 QQ (F0 m 77 ls []) := by
        intro y77_3 H locs ls hl hP hD hS h
        unfold fX11_behindEnds_J77 at h
        refine lv_iconst (v := 0) hx hb dX11_behindEnds_77 (by decide) ?_
        exact J78 y77_3 (0 : Int32) H locs ls (lv_sub hl [0, 1, 2] rfl) hP hD hS h
      refine lv_iload_n hx hb dX11_behindEnds_2 rfl (lv_at hl 1 rfl) ?_
      refine lv_aload_n hx hb dX11_behindEnds_3 rfl (lv_at hl 0 rfl) ?_
      refine va_get (D := D) (ci := 11) (v := .ref (a0 0)) (C := RX11) (T := TX11) (N := 38) hx hb hts hinX11 hown hK hP 0 rfl rfl 0 (by decide) (hts (.fieldLink RX11 7 "KneeBenchModel" "at" "[I") (List.mem_of_getElem? (i := 1) rfl)) (fun _ h9 => h9) rfl dX11_behindEnds_4 ?_
      refine lv_iconst (v := 3) hx hb dX11_behindEnds_7 (by decide) ?_
      refine va_iald hx hb hK hP 1 1 rfl rfl (inb_in (by decide)) dX11_behindEnds_8 ?_
      refine lv_icmp_ge (tgt := 117) hx hb dX11_behindEnds_9 (by decide) (fun c8 => ?_) (fun c8 => ?_)
      · replace h := (if_pos c8).symm.trans h
        have eo := hst _ (Option.some.inj h).symm
        subst eo
        exact kk117 H locs ls (lv_sub hl [1] rfl) hP hD hS
      · replace h := (if_neg c8).symm.trans h
        refine lv_aload_n hx hb dX11_behindEnds_12 rfl (lv_at hl 0 rfl) ?_
        refine va_get (D := D) (ci := 11) (v := .ref (a0 0)) (C := RX11) (T := TX11) (N := 38) hx hb hts hinX11 hown hK hP 0 rfl rfl 0 (by decide) (hts (.fieldLink RX11 7 "KneeBenchModel" "at" "[I") (List.mem_of_getElem? (i := 1) rfl)) (fun _ h9 => h9) rfl dX11_behindEnds_13 ?_
        refine lv_sipush (v := 670) hx hb dX11_behindEnds_16 (by decide) ?_
        refine lv_bipush (v := 6) hx hb dX11_behindEnds_19 (by decide) ?_
        refine lv_iload_n hx hb dX11_behindEnds_21 rfl (lv_at hl 1 rfl) ?_
        refine lv_imul hx hb dX11_behindEnds_22 ?_
        refine lv_iadd hx hb dX11_behindEnds_23 ?_
        obtain ⟨g9, h⟩ := gd_elim h
        refine va_iald hx hb hK hP 1 1 rfl rfl (inb_in g9) dX11_behindEnds_24 ?_
        refine lv_bipush (v := 25) hx hb dX11_behindEnds_25 (by decide) ?_
        refine lv_icmp_ne (tgt := 117) hx hb dX11_behindEnds_27 (by decide) (fun c10 => ?_) (fun c10 => ?_)
        · replace h := (if_neg c10).symm.trans h
          have eo := hst _ (Option.some.inj h).symm
          subst eo
          exact kk117 H locs ls (lv_sub hl [1] rfl) hP hD hS
        · replace h := (if_pos c10).symm.trans h
          refine lv_aload_n hx hb dX11_behindEnds_30 rfl (lv_at hl 0 rfl) ?_
          refine va_get (D := D) (ci := 11) (v := .ref (a0 0)) (C := RX11) (T := TX11) (N := 38) hx hb hts hinX11 hown hK hP 0 rfl rfl 0 (by decide) (hts (.fieldLink RX11 7 "KneeBenchModel" "at" "[I") (List.mem_of_getElem? (i := 1) rfl)) (fun _ h9 => h9) rfl dX11_behindEnds_31 ?_
          refine lv_sipush (v := 670) hx hb dX11_behindEnds_34 (by decide) ?_
          refine lv_bipush (v := 6) hx hb dX11_behindEnds_37 (by decide) ?_
          refine lv_iload_n hx hb dX11_behindEnds_39 rfl (lv_at hl 1 rfl) ?_
          refine lv_imul hx hb dX11_behindEnds_40 ?_
          refine lv_iadd hx hb dX11_behindEnds_41 ?_
          refine lv_iconst (v := 4) hx hb dX11_behindEnds_42 (by decide) ?_
          refine lv_iadd hx hb dX11_behindEnds_43 ?_
          obtain ⟨g11, h⟩ := gd_elim h
          refine va_iald hx hb hK hP 1 1 rfl rfl (inb_in g11) dX11_behindEnds_44 ?_
          refine lv_topi (fun x12 ex12 => ?_)
          replace h := lt_use h x12 ex12
          refine lv_istore_n (lv' := [(3, .int x12), (0, .ref h0), (2, .int q2.1)]) hx hb dX11_behindEnds_45 rfl hl (by decide) rfl (fun ls hl => ?_)
          refine lv_aload_n hx hb dX11_behindEnds_46 rfl (lv_at hl 1 rfl) ?_
          refine va_get (D := D) (ci := 11) (v := .ref (a0 0)) (C := RX11) (T := TX11) (N := 38) hx hb hts hinX11 hown hK hP 0 rfl rfl 0 (by decide) (hts (.fieldLink RX11 7 "KneeBenchModel" "at" "[I") (List.mem_of_getElem? (i := 1) rfl)) (fun _ h9 => h9) rfl dX11_behindEnds_47 ?_
          refine lv_sipush (v := 670) hx hb dX11_behindEnds_50 (by decide) ?_
          refine lv_bipush (v := 6) hx hb dX11_behindEnds_53 (by decide) ?_
          refine lv_iload_n hx hb dX11_behindEnds_55 rfl (lv_at hl 0 rfl) ?_
          refine lv_imul hx hb dX11_behindEnds_56 ?_
          refine lv_iadd hx hb dX11_behindEnds_57 ?_
          obtain ⟨g13, h⟩ := gd_elim h
          refine va_iald hx hb hK hP 1 1 rfl rfl (inb_in g13) dX11_behindEnds_58 ?_
          refine lv_bipush (v := 24) hx hb dX11_behindEnds_59 (by decide) ?_
          refine lv_icmp_ne (tgt := 77) hx hb dX11_behindEnds_61 (by decide) (fun c14 => ?_) (fun c14 => ?_)
          · replace h := (if_neg c14).symm.trans h
            exact J77 x12 H locs ls (lv_sub hl [1, 2, 0] rfl) hP hD hS h
          · replace h := (if_pos c14).symm.trans h
            refine lv_aload_n hx hb dX11_behindEnds_64 rfl (lv_at hl 1 rfl) ?_
            refine va_get (D := D) (ci := 11) (v := .ref (a0 33)) (C := RX11) (T := TX11) (N := 38) hx hb hts hinX11 hown hK hP 0 rfl rfl 33 (by decide) (hts (.fieldLink RX11 56 "KneeBenchModel" "loops" "[I") (List.mem_of_getElem? (i := 2) rfl)) (fun _ h9 => h9) rfl dX11_behindEnds_65 ?_
            refine lv_iload_n hx hb dX11_behindEnds_68 rfl (lv_at hl 0 rfl) ?_
            obtain ⟨g15, h⟩ := gd_elim h
            refine va_iald hx hb hK hP 11 1 rfl rfl (inb_in g15) dX11_behindEnds_69 ?_
            refine lv_if_le (tgt := 77) hx hb dX11_behindEnds_70 (by decide) (fun c16 => ?_) (fun c16 => ?_)
            · replace h := (if_pos c16).symm.trans h
              exact J77 x12 H locs ls (lv_sub hl [1, 2, 0] rfl) hP hD hS h
            · replace h := (if_neg c16).symm.trans h
              refine lv_iconst (v := 1) hx hb dX11_behindEnds_73 (by decide) ?_
              refine lv_goto (tgt := 78) hx hb dX11_behindEnds_74 (by decide) ?_
              exact J78 x12 (1 : Int32) H locs ls (lv_sub hl [1, 2, 0] rfl) hP hD hS h
  obtain ⟨o2, ho2, h⟩ := bd_elim h
  obtain ⟨n2, hn2⟩ := loopF_some ho2
  refine L2 n2 _ o2 hn2 H locs ls (lv_sub hl [1, 0] rfl) hP hD hS (fun H locs ls hl hP hD hS => ?_)
  refine lv_iload_n hx hb dX11_behindEnds_117 rfl (lv_at hl 0 rfl) ?_
  exact hret 118 H locs ls (o2.1, o2.2) (Option.some.inj h) hP hD hS dX11_behindEnds_118
theorem dX11_isAsked_0 : decode cX11_isAsked 0 = .ok (.iload_n 0, 1) := by decide +kernel
theorem dX11_isAsked_1 : decode cX11_isAsked 1 = .ok (.ifCond .lt 13, 3) := by decide +kernel
theorem dX11_isAsked_4 : decode cX11_isAsked 4 = .ok (.iload_n 0, 1) := by decide +kernel
theorem dX11_isAsked_5 : decode cX11_isAsked 5 = .ok (.bipush 62, 2) := by decide +kernel
theorem dX11_isAsked_7 : decode cX11_isAsked 7 = .ok (.if_icmp .gt 7, 3) := by decide +kernel
theorem dX11_isAsked_10 : decode cX11_isAsked 10 = .ok (.iconst 1, 1) := by decide +kernel
theorem dX11_isAsked_11 : decode cX11_isAsked 11 = .ok (.goto 4, 3) := by decide +kernel
theorem dX11_isAsked_14 : decode cX11_isAsked 14 = .ok (.iconst 0, 1) := by decide +kernel
theorem dX11_isAsked_15 : decode cX11_isAsked 15 = .ok (.ireturn, 1) := by decide +kernel
abbrev rmX11_isAsked : Room := { frames := 0, cells := 0, slots := 0, locals := 0 }
set_option maxHeartbeats 4000000 in
set_option maxRecDepth 100000 in
theorem kX11_isAsked (l : Launch) (D : va_G) (cy : Nat → ClassId) (p1 : Int32) (res : Int32) (h : fX11_isAsked p1 = res) : CZ l D cy yX11_isAsked wsX11_isAsked rmX11_isAsked [.int p1] (flat []) (flat []) res := by
  refine CZ.of (cc := cX11_isAsked) (maxL := 1) (by decide) rfl (Nat.le_of_ble_eq_true rfl) ?_
  intro p e s m args below meth c A QQ ls E hr
  obtain ⟨hx, hb, hml, hown, hts, hK, hN, hP, hD, hA, hl⟩ := E
  have hret : ∀ (pc : Nat) (H : Heap) (locs : List Loc) (ls : Array Slot) (u : Int32), u = res → va_P D vwCl (flat []) H → va_D A (flat []) → va_S A s.heap H locs → isb u = true → decode cX11_isAsked pc = .ok (.ireturn, 1) → W p l e rmX11_isAsked s m args below meth c H locs 0 0 QQ (F0 m pc ls [.int u]) := by
    intro pc H locs ls u hu hP hD hS hz hd; subst hu; exact hr pc H locs ls _ rfl hP hD hS hz hd
  clear hr
  have hl : lv_has ls 1 [(0, .int p1)] := hl
  unfold fX11_isAsked at h
  suffices key : ∀ (H : Heap) (locs : List Loc), va_P D vwCl (flat []) H → va_S A s.heap H locs → W p l e rmX11_isAsked s m args below meth c H locs 0 0 QQ (F0 m 0 ls []) from key _ _ hP va_S.rf
  clear hP
  intro H locs hP hS
  refine lv_iload_n hx hb dX11_isAsked_0 rfl (lv_at hl 0 rfl) ?_
  refine lv_if_lt (tgt := 14) hx hb dX11_isAsked_1 (by decide) (fun c1 => ?_) (fun c1 => ?_)
  · replace h := (if_pos c1).symm.trans h
    refine lv_iconst (v := 0) hx hb dX11_isAsked_14 (by decide) ?_
    exact hret 15 H locs ls (0 : Int32) h hP hD hS (show isb (0 : Int32) = true by decide) dX11_isAsked_15
  · replace h := (if_neg c1).symm.trans h
    refine lv_iload_n hx hb dX11_isAsked_4 rfl (lv_at hl 0 rfl) ?_
    refine lv_bipush (v := 62) hx hb dX11_isAsked_5 (by decide) ?_
    refine lv_icmp_gt (tgt := 14) hx hb dX11_isAsked_7 (by decide) (fun c2 => ?_) (fun c2 => ?_)
    · replace h := (if_pos c2).symm.trans h
      refine lv_iconst (v := 0) hx hb dX11_isAsked_14 (by decide) ?_
      exact hret 15 H locs ls (0 : Int32) h hP hD hS (show isb (0 : Int32) = true by decide) dX11_isAsked_15
    · replace h := (if_neg c2).symm.trans h
      refine lv_iconst (v := 1) hx hb dX11_isAsked_10 (by decide) ?_
      refine lv_goto (tgt := 15) hx hb dX11_isAsked_11 (by decide) ?_
      exact hret 15 H locs ls (1 : Int32) h hP hD hS (show isb (1 : Int32) = true by decide) dX11_isAsked_15
theorem gd_X11_believers : wsX11_believers.all goodWord = true := by decide +kernel
set_option maxRecDepth 20000 in
theorem ggX11_believers_X11_isAsked : GoodIn wsX11_believers wsX11_isAsked := goodIn_by gd_X11_believers (List.forall_mem_cons.mpr ⟨List.mem_cons_of_mem _ (List.mem_append_left _ (List.mem_append_left _ (List.mem_of_getElem? (i := 4) rfl))), nowords_in⟩)
set_option maxRecDepth 20000 in
theorem gX11_believers_X11_isAsked : GoodIn wsX11_believers (va_wsS RX11 304 yX11_isAsked wsX11_isAsked) := goodIn_app (goodIn_by gd_X11_believers (List.forall_mem_cons.mpr ⟨List.mem_cons_of_mem _ (List.mem_append_left _ (List.mem_append_left _ (List.mem_of_getElem? (i := 1) rfl))), List.forall_mem_cons.mpr ⟨List.mem_cons_of_mem _ (List.mem_append_left _ (List.mem_append_left _ (List.mem_of_getElem? (i := 2) rfl))), List.forall_mem_cons.mpr ⟨List.mem_cons_of_mem _ (List.mem_append_left _ (List.mem_append_left _ (List.mem_of_getElem? (i := 3) rfl))), nowords_in⟩⟩⟩)) ggX11_believers_X11_isAsked
set_option maxRecDepth 20000 in
theorem ggX11_believers_X11_refuse : GoodIn wsX11_believers wsX11_refuse := goodIn_by gd_X11_believers (List.forall_mem_cons.mpr ⟨List.mem_cons_of_mem _ (List.mem_append_left _ (List.mem_append_left _ (List.mem_of_getElem? (i := 8) rfl))), List.forall_mem_append.mpr ⟨List.forall_mem_cons.mpr ⟨List.mem_cons_of_mem _ (List.mem_append_left _ (List.mem_append_left _ (List.mem_of_getElem? (i := 9) rfl))), nowords_in⟩, (fun _ h => List.mem_cons_of_mem _ (List.mem_append_right _ (h)))⟩⟩)
set_option maxRecDepth 20000 in
theorem gX11_believers_X11_refuse : GoodIn wsX11_believers (wsV RX11 75 RX11 yX11_refuse wsX11_refuse) := goodIn_app (goodIn_by gd_X11_believers (List.forall_mem_cons.mpr ⟨List.mem_cons_of_mem _ (List.mem_append_left _ (List.mem_append_left _ (List.mem_of_getElem? (i := 5) rfl))), List.forall_mem_cons.mpr ⟨List.mem_cons_of_mem _ (List.mem_append_left _ (List.mem_append_left _ (List.mem_of_getElem? (i := 6) rfl))), List.forall_mem_cons.mpr ⟨List.mem_cons_of_mem _ (List.mem_append_left _ (List.mem_append_left _ (List.mem_of_getElem? (i := 7) rfl))), List.forall_mem_cons.mpr ⟨List.mem_cons_of_mem _ (List.mem_append_left _ (List.mem_append_left _ (List.mem_of_getElem? (i := 3) rfl))), nowords_in⟩⟩⟩⟩)) ggX11_believers_X11_refuse
set_option maxRecDepth 20000 in
theorem ggX11_believers_X11_tellOf : GoodIn wsX11_believers wsX11_tellOf := goodIn_by gd_X11_believers (List.forall_mem_cons.mpr ⟨List.mem_cons_of_mem _ (List.mem_append_left _ (List.mem_append_left _ (List.mem_of_getElem? (i := 13) rfl))), List.forall_mem_append.mpr ⟨List.forall_mem_cons.mpr ⟨List.mem_cons_of_mem _ (List.mem_append_left _ (List.mem_append_left _ (List.mem_of_getElem? (i := 14) rfl))), List.forall_mem_cons.mpr ⟨List.mem_cons_of_mem _ (List.mem_append_left _ (List.mem_append_left _ (List.mem_of_getElem? (i := 0) rfl))), List.forall_mem_cons.mpr ⟨List.mem_cons_of_mem _ (List.mem_append_left _ (List.mem_append_left _ (List.mem_of_getElem? (i := 15) rfl))), List.forall_mem_cons.mpr ⟨List.mem_cons_of_mem _ (List.mem_append_left _ (List.mem_append_left _ (List.mem_of_getElem? (i := 16) rfl))), List.forall_mem_cons.mpr ⟨List.mem_cons_of_mem _ (List.mem_append_left _ (List.mem_append_left _ (List.mem_of_getElem? (i := 17) rfl))), List.forall_mem_cons.mpr ⟨List.mem_cons_of_mem _ (List.mem_append_left _ (List.mem_append_left _ (List.mem_of_getElem? (i := 18) rfl))), List.forall_mem_cons.mpr ⟨List.mem_cons_of_mem _ (List.mem_append_left _ (List.mem_append_left _ (List.mem_of_getElem? (i := 3) rfl))), List.forall_mem_cons.mpr ⟨List.mem_cons_of_mem _ (List.mem_append_left _ (List.mem_append_left _ (List.mem_of_getElem? (i := 19) rfl))), List.forall_mem_cons.mpr ⟨List.mem_cons_of_mem _ (List.mem_append_left _ (List.mem_append_left _ (List.mem_of_getElem? (i := 20) rfl))), List.forall_mem_cons.mpr ⟨List.mem_cons_of_mem _ (List.mem_append_left _ (List.mem_append_left _ (List.mem_of_getElem? (i := 21) rfl))), List.forall_mem_cons.mpr ⟨List.mem_cons_of_mem _ (List.mem_append_left _ (List.mem_append_left _ (List.mem_of_getElem? (i := 22) rfl))), List.forall_mem_cons.mpr ⟨List.mem_cons_of_mem _ (List.mem_append_left _ (List.mem_append_left _ (List.mem_of_getElem? (i := 23) rfl))), List.forall_mem_cons.mpr ⟨List.mem_cons_of_mem _ (List.mem_append_left _ (List.mem_append_right _ (List.mem_of_getElem? (i := 0) rfl))), List.forall_mem_cons.mpr ⟨List.mem_cons_of_mem _ (List.mem_append_left _ (List.mem_append_right _ (List.mem_of_getElem? (i := 1) rfl))), List.forall_mem_cons.mpr ⟨List.mem_cons_of_mem _ (List.mem_append_left _ (List.mem_append_right _ (List.mem_of_getElem? (i := 2) rfl))), List.forall_mem_cons.mpr ⟨List.mem_cons_of_mem _ (List.mem_append_left _ (List.mem_append_right _ (List.mem_of_getElem? (i := 3) rfl))), List.forall_mem_cons.mpr ⟨List.mem_cons_of_mem _ (List.mem_append_left _ (List.mem_append_right _ (List.mem_of_getElem? (i := 4) rfl))), List.forall_mem_cons.mpr ⟨List.mem_cons_of_mem _ (List.mem_append_left _ (List.mem_append_right _ (List.mem_of_getElem? (i := 5) rfl))), List.forall_mem_cons.mpr ⟨List.mem_cons_of_mem _ (List.mem_append_left _ (List.mem_append_right _ (List.mem_of_getElem? (i := 6) rfl))), List.forall_mem_cons.mpr ⟨List.mem_cons_of_mem _ (List.mem_append_left _ (List.mem_append_right _ (List.mem_of_getElem? (i := 7) rfl))), List.forall_mem_cons.mpr ⟨List.mem_cons_of_mem _ (List.mem_append_left _ (List.mem_append_right _ (List.mem_of_getElem? (i := 8) rfl))), List.forall_mem_cons.mpr ⟨List.mem_cons_of_mem _ (List.mem_append_left _ (List.mem_append_right _ (List.mem_of_getElem? (i := 9) rfl))), nowords_in⟩⟩⟩⟩⟩⟩⟩⟩⟩⟩⟩⟩⟩⟩⟩⟩⟩⟩⟩⟩⟩⟩, (fun _ h => List.mem_cons_of_mem _ (List.mem_append_right _ (h)))⟩⟩)
set_option maxRecDepth 20000 in
theorem gX11_believers_X11_tellOf : GoodIn wsX11_believers (wsV RX11 307 RX11 yX11_tellOf wsX11_tellOf) := goodIn_app (goodIn_by gd_X11_believers (List.forall_mem_cons.mpr ⟨List.mem_cons_of_mem _ (List.mem_append_left _ (List.mem_append_left _ (List.mem_of_getElem? (i := 10) rfl))), List.forall_mem_cons.mpr ⟨List.mem_cons_of_mem _ (List.mem_append_left _ (List.mem_append_left _ (List.mem_of_getElem? (i := 11) rfl))), List.forall_mem_cons.mpr ⟨List.mem_cons_of_mem _ (List.mem_append_left _ (List.mem_append_left _ (List.mem_of_getElem? (i := 12) rfl))), List.forall_mem_cons.mpr ⟨List.mem_cons_of_mem _ (List.mem_append_left _ (List.mem_append_left _ (List.mem_of_getElem? (i := 3) rfl))), nowords_in⟩⟩⟩⟩)) ggX11_believers_X11_tellOf
set_option maxRecDepth 20000 in
theorem ggX11_believers_X11_gives : GoodIn wsX11_believers wsX11_gives := goodIn_by gd_X11_believers (List.forall_mem_cons.mpr ⟨List.mem_cons_of_mem _ (List.mem_append_left _ (List.mem_append_right _ (List.mem_of_getElem? (i := 13) rfl))), List.forall_mem_append.mpr ⟨List.forall_mem_cons.mpr ⟨List.mem_cons_of_mem _ (List.mem_append_left _ (List.mem_append_left _ (List.mem_of_getElem? (i := 9) rfl))), nowords_in⟩, (fun _ h => List.mem_cons_of_mem _ (List.mem_append_right _ (h)))⟩⟩)
set_option maxRecDepth 20000 in
theorem gX11_believers_X11_gives : GoodIn wsX11_believers (wsV RX11 79 RX11 yX11_gives wsX11_gives) := goodIn_app (goodIn_by gd_X11_believers (List.forall_mem_cons.mpr ⟨List.mem_cons_of_mem _ (List.mem_append_left _ (List.mem_append_right _ (List.mem_of_getElem? (i := 10) rfl))), List.forall_mem_cons.mpr ⟨List.mem_cons_of_mem _ (List.mem_append_left _ (List.mem_append_right _ (List.mem_of_getElem? (i := 11) rfl))), List.forall_mem_cons.mpr ⟨List.mem_cons_of_mem _ (List.mem_append_left _ (List.mem_append_right _ (List.mem_of_getElem? (i := 12) rfl))), List.forall_mem_cons.mpr ⟨List.mem_cons_of_mem _ (List.mem_append_left _ (List.mem_append_left _ (List.mem_of_getElem? (i := 3) rfl))), nowords_in⟩⟩⟩⟩)) ggX11_believers_X11_gives
theorem dX11_believers_0 : decode cX11_believers 0 = .ok (.iload_n 1, 1) := by decide +kernel
theorem dX11_believers_1 : decode cX11_believers 1 = .ok (.invokestatic 304, 3) := by decide +kernel
theorem dX11_believers_4 : decode cX11_believers 4 = .ok (.ifCond .ne 9, 3) := by decide +kernel
theorem dX11_believers_7 : decode cX11_believers 7 = .ok (.aload_n 0, 1) := by decide +kernel
theorem dX11_believers_8 : decode cX11_believers 8 = .ok (.iconst 1, 1) := by decide +kernel
theorem dX11_believers_9 : decode cX11_believers 9 = .ok (.invokevirtual 75, 3) := by decide +kernel
theorem dX11_believers_12 : decode cX11_believers 12 = .ok (.ireturn, 1) := by decide +kernel
theorem dX11_believers_13 : decode cX11_believers 13 = .ok (.iconst 0, 1) := by decide +kernel
theorem dX11_believers_14 : decode cX11_believers 14 = .ok (.istore_n 2, 1) := by decide +kernel
theorem dX11_believers_15 : decode cX11_believers 15 = .ok (.iconst 0, 1) := by decide +kernel
theorem dX11_believers_16 : decode cX11_believers 16 = .ok (.istore_n 3, 1) := by decide +kernel
theorem dX11_believers_17 : decode cX11_believers 17 = .ok (.iload_n 3, 1) := by decide +kernel
theorem dX11_believers_18 : decode cX11_believers 18 = .ok (.aload_n 0, 1) := by decide +kernel
theorem dX11_believers_19 : decode cX11_believers 19 = .ok (.getfield 7, 3) := by decide +kernel
theorem dX11_believers_22 : decode cX11_believers 22 = .ok (.iconst 0, 1) := by decide +kernel
theorem dX11_believers_23 : decode cX11_believers 23 = .ok (.iaload, 1) := by decide +kernel
theorem dX11_believers_24 : decode cX11_believers 24 = .ok (.if_icmp .ge 29, 3) := by decide +kernel
theorem dX11_believers_27 : decode cX11_believers 27 = .ok (.iload_n 2, 1) := by decide +kernel
theorem dX11_believers_28 : decode cX11_believers 28 = .ok (.aload_n 0, 1) := by decide +kernel
theorem dX11_believers_29 : decode cX11_believers 29 = .ok (.iload_n 3, 1) := by decide +kernel
theorem dX11_believers_30 : decode cX11_believers 30 = .ok (.iload_n 1, 1) := by decide +kernel
theorem dX11_believers_31 : decode cX11_believers 31 = .ok (.invokevirtual 307, 3) := by decide +kernel
theorem dX11_believers_34 : decode cX11_believers 34 = .ok (.iconst 1, 1) := by decide +kernel
theorem dX11_believers_35 : decode cX11_believers 35 = .ok (.if_icmp .ne 9, 3) := by decide +kernel
theorem dX11_believers_38 : decode cX11_believers 38 = .ok (.iconst 1, 1) := by decide +kernel
theorem dX11_believers_39 : decode cX11_believers 39 = .ok (.iload_n 3, 1) := by decide +kernel
theorem dX11_believers_40 : decode cX11_believers 40 = .ok (.ishl, 1) := by decide +kernel
theorem dX11_believers_41 : decode cX11_believers 41 = .ok (.goto 4, 3) := by decide +kernel
theorem dX11_believers_44 : decode cX11_believers 44 = .ok (.iconst 0, 1) := by decide +kernel
theorem dX11_believers_45 : decode cX11_believers 45 = .ok (.ior, 1) := by decide +kernel
theorem dX11_believers_46 : decode cX11_believers 46 = .ok (.istore_n 2, 1) := by decide +kernel
theorem dX11_believers_47 : decode cX11_believers 47 = .ok (.iinc 3 1, 3) := by decide +kernel
theorem dX11_believers_50 : decode cX11_believers 50 = .ok (.goto (-33), 3) := by decide +kernel
theorem dX11_believers_53 : decode cX11_believers 53 = .ok (.aload_n 0, 1) := by decide +kernel
theorem dX11_believers_54 : decode cX11_believers 54 = .ok (.iload_n 2, 1) := by decide +kernel
theorem dX11_believers_55 : decode cX11_believers 55 = .ok (.invokevirtual 79, 3) := by decide +kernel
theorem dX11_believers_58 : decode cX11_believers 58 = .ok (.ireturn, 1) := by decide +kernel
abbrev rmX11_believers : Room := { frames := 3, cells := 0, slots := 0, locals := 66 }
set_option maxHeartbeats 4000000 in
set_option maxRecDepth 100000 in
theorem kX11_believers (l : Launch) (D : va_G) (cy : Nat → ClassId) (h0 : Nat) (a0 : Nat → Nat) (s0 : Rc) (p1 : Int32) (res : Int32 × Rc) (h : fX11_believers p1 s0 = some res) : CI l D cy yX11_believers wsX11_believers rmX11_believers [.ref h0, .int p1] (flat [WX11 cy h0 a0 s0]) (flat [WX11 cy h0 a0 res.2]) res.1 := by
  refine CI.of (cc := cX11_believers) (maxL := 4) (by decide) rfl (Nat.le_of_ble_eq_true rfl) ?_
  intro p e s m args below meth c A QQ ls E hr
  obtain ⟨hx, hb, hml, hown, hts, hK, hN, hP, hD, hA, hl⟩ := E
  have hret : ∀ (pc : Nat) (H : Heap) (locs : List Loc) (ls : Array Slot) (u : Int32 × Rc), u = res → va_P D vwCl (flat [WX11 cy h0 a0 u.2]) H → va_D A (flat [WX11 cy h0 a0 u.2]) → va_S A s.heap H locs → decode cX11_believers pc = .ok (.ireturn, 1) → W p l e rmX11_believers s m args below meth c H locs 0 0 QQ (F0 m pc ls [.int u.1]) := by
    intro pc H locs ls u hu hP hD hS hd; subst hu; exact hr pc H locs ls _ rfl hP hD hS hd
  clear hr
  have hl : lv_has ls 4 [(0, .ref h0), (1, .int p1)] := hl
  have hinX11 : ∀ w ∈ wsX110, w ∈ wsX11_believers := fun _ h => List.mem_cons_of_mem _ (List.mem_append_right _ h)
  unfold fX11_believers at h
  suffices key : ∀ (H : Heap) (locs : List Loc), va_P D vwCl (flat [WX11 cy h0 a0 s0]) H → va_S A s.heap H locs → W p l e rmX11_believers s m args below meth c H locs 0 0 QQ (F0 m 0 ls []) from key _ _ hP va_S.rf
  clear hP
  intro H locs hP hS
  refine lv_iload_n hx hb dX11_believers_0 rfl (lv_at hl 1 rfl) ?_
  refine ca_z (w' := [WX11 cy h0 a0 s0]) (rn_S (As := [.int p1]) (rest := []) ⟨hx, hb, hml, hown, hts⟩ (kX11_isAsked l D cy p1 _ rfl H.size) (va_cwS 1 hts gX11_believers_X11_isAsked rfl rfl rfl (by decide +kernel) ⟨Nat.le_of_ble_eq_true rfl, Nat.le_of_ble_eq_true rfl⟩) hK hN hP hD [] rfl rfl rfl hl.1 rfl (Nat.le_of_ble_eq_true rfl) dX11_believers_1 ⟨Nat.le_refl 0, Nat.le_refl 0⟩) hP hD hS hA [] ⟨rfl, rfl, rfl, rfl⟩ (fun b1 H locs hP hD hS => ?_)
  refine lv_if_ne (tgt := 13) hx hb dX11_believers_4 (by decide) (fun c2 => ?_) (fun c2 => ?_)
  · replace h := (if_neg c2).symm.trans h
    refine lv_iconst (v := 0) hx hb dX11_believers_13 (by decide) ?_
    refine lv_istore_n (lv' := [(2, .int (0 : Int32)), (0, .ref h0), (1, .int p1)]) hx hb dX11_believers_14 rfl hl (by decide) rfl (fun ls hl => ?_)
    refine lv_iconst (v := 0) hx hb dX11_believers_15 (by decide) ?_
    refine lv_istore_n (lv' := [(3, .int (0 : Int32)), (2, .int (0 : Int32)), (0, .ref h0), (1, .int p1)]) hx hb dX11_believers_16 rfl hl (by decide) rfl (fun ls hl => ?_)
    have L17 : ∀ (n : Nat) (q17 : Int32 × Int32) (o : Int32), loopO (fX11_believers_L17 p1 s0) n q17 = some o → ∀ (H : Heap) (locs : List Loc) (ls : Array Slot), lv_has ls 4 [(0, .ref h0), (1, .int p1), (2, .int q17.1), (3, .int q17.2)] → va_P D vwCl (flat [WX11 cy h0 a0 s0]) H → va_D A (flat [WX11 cy h0 a0 s0]) → va_S A s.heap H locs → ∀ (kk53 : ∀ (H : Heap) (locs : List Loc) (ls : Array Slot), lv_has ls 4 [(0, .ref h0), (2, .int o)] → va_P D vwCl (flat [WX11 cy h0 a0 s0]) H → va_D A (flat [WX11 cy h0 a0 s0]) → va_S A s.heap H locs → W p l e rmX11_believers s m args below meth c H locs 0 0 QQ (F0 m 53 ls [])), W p l e rmX11_believers s m args below meth c H locs 0 0 QQ (F0 m 17 ls []) := by
      intro n
      induction n with
      | zero => intro q17 o h; exact absurd h (by rw [loopO_zero]; intro z; cases z)
      | succ n ih =>
        intro q17 o h H locs ls hl hP hD hS kk53
        obtain ⟨w, h, hgo, hst⟩ := loopO_elim h
        unfold fX11_believers_L17 at h
        refine lv_iload_n hx hb dX11_believers_17 rfl (lv_at hl 3 rfl) ?_
        refine lv_aload_n hx hb dX11_believers_18 rfl (lv_at hl 0 rfl) ?_
        refine va_get (D := D) (ci := 11) (v := .ref (a0 0)) (C := RX11) (T := TX11) (N := 38) hx hb hts hinX11 hown hK hP 0 rfl rfl 0 (by decide) (hts (.fieldLink RX11 7 "KneeBenchModel" "at" "[I") (List.mem_of_getElem? (i := 1) rfl)) (fun _ h9 => h9) rfl dX11_believers_19 ?_
        refine lv_iconst (v := 0) hx hb dX11_believers_22 (by decide) ?_
        refine va_iald hx hb hK hP 1 1 rfl rfl (inb_in (by decide)) dX11_believers_23 ?_
        refine lv_icmp_ge (tgt := 53) hx hb dX11_believers_24 (by decide) (fun c3 => ?_) (fun c3 => ?_)
        · replace h := (if_pos c3).symm.trans h
          have eo := hst _ (Option.some.inj h).symm
          subst eo
          exact kk53 H locs ls (lv_sub hl [0, 2] rfl) hP hD hS
        · replace h := (if_neg c3).symm.trans h
          refine lv_iload_n hx hb dX11_believers_27 rfl (lv_at hl 2 rfl) ?_
          refine lv_aload_n hx hb dX11_believers_28 rfl (lv_at hl 0 rfl) ?_
          refine lv_iload_n hx hb dX11_believers_29 rfl (lv_at hl 3 rfl) ?_
          refine lv_iload_n hx hb dX11_believers_30 rfl (lv_at hl 1 rfl) ?_
          obtain ⟨r4, hr4, h⟩ := bd_elim h
          refine ca_i (w' := [WX11 cy h0 a0 s0]) (rn_V (As := [.int q17.2, .int p1]) (rest := [.int q17.1]) ⟨hx, hb, hml, hown, hts⟩ (kX11_tellOf l D cy h0 a0 s0 q17.2 p1 r4 hr4 H.size) (cwV 2 hts gX11_believers_X11_tellOf rfl rfl rfl (by decide +kernel) ⟨Nat.le_of_ble_eq_true rfl, Nat.le_of_ble_eq_true rfl⟩) hK hN hP hD [0] rfl rfl (ci := 11) (q0 := 0) rfl rfl rfl rfl hl.1 rfl (Nat.le_of_ble_eq_true rfl) dX11_believers_31 ⟨Nat.le_refl 0, Nat.le_refl 0⟩) hP hD hS hA [0] ⟨rfl, rfl, rfl, rfl⟩ (fun H locs hP hD hS => ?_)
          refine lv_iconst (v := 1) hx hb dX11_believers_34 (by decide) ?_
          refine lv_icmp_ne (tgt := 44) hx hb dX11_believers_35 (by decide) (fun c5 => ?_) (fun c5 => ?_)
          · replace h := (if_neg c5).symm.trans h
            refine lv_iconst (v := 0) hx hb dX11_believers_44 (by decide) ?_
            refine lv_ior hx hb dX11_believers_45 ?_
            refine lv_topi (fun x6 ex6 => ?_)
            replace h := lt_use h x6 ex6
            refine lv_istore_n (lv' := [(2, .int x6), (0, .ref h0), (1, .int p1), (3, .int q17.2)]) hx hb dX11_believers_46 rfl hl (by decide) rfl (fun ls hl => ?_)
            refine lv_iinc (v := (q17.2 + (1 : Int32))) (lv' := [(3, .int (q17.2 + (1 : Int32))), (2, .int x6), (0, .ref h0), (1, .int p1)]) hx hb dX11_believers_47 hl (k := 3) rfl rfl (by decide) rfl (fun ls hl => ?_)
            refine lv_goto (tgt := 17) hx hb dX11_believers_50 (by decide) ?_
            exact ih _ o (hgo _ (Option.some.inj h).symm) H locs ls (lv_sub hl [2, 3, 1, 0] rfl) hP hD hS kk53
          · replace h := (if_pos c5).symm.trans h
            refine lv_iconst (v := 1) hx hb dX11_believers_38 (by decide) ?_
            refine lv_iload_n hx hb dX11_believers_39 rfl (lv_at hl 3 rfl) ?_
            refine lv_ishl hx hb dX11_believers_40 ?_
            refine lv_goto (tgt := 45) hx hb dX11_believers_41 (by decide) ?_
            refine lv_ior hx hb dX11_believers_45 ?_
            refine lv_topi (fun x7 ex7 => ?_)
            replace h := lt_use h x7 ex7
            refine lv_istore_n (lv' := [(2, .int x7), (0, .ref h0), (1, .int p1), (3, .int q17.2)]) hx hb dX11_believers_46 rfl hl (by decide) rfl (fun ls hl => ?_)
            refine lv_iinc (v := (q17.2 + (1 : Int32))) (lv' := [(3, .int (q17.2 + (1 : Int32))), (2, .int x7), (0, .ref h0), (1, .int p1)]) hx hb dX11_believers_47 hl (k := 3) rfl rfl (by decide) rfl (fun ls hl => ?_)
            refine lv_goto (tgt := 17) hx hb dX11_believers_50 (by decide) ?_
            exact ih _ o (hgo _ (Option.some.inj h).symm) H locs ls (lv_sub hl [2, 3, 1, 0] rfl) hP hD hS kk53
    obtain ⟨o17, ho17, h⟩ := bd_elim h
    obtain ⟨n17, hn17⟩ := loopF_some ho17
    refine L17 n17 _ o17 hn17 H locs ls (lv_sub hl [2, 3, 1, 0] rfl) hP hD hS (fun H locs ls hl hP hD hS => ?_)
    refine lv_aload_n hx hb dX11_believers_53 rfl (lv_at hl 0 rfl) ?_
    refine lv_iload_n hx hb dX11_believers_54 rfl (lv_at hl 1 rfl) ?_
    obtain ⟨r8, hr8, h⟩ := lt_elim h
    refine ca_i (w' := [WX11 cy h0 a0 r8.2]) (rn_V (As := [.int o17]) (rest := []) ⟨hx, hb, hml, hown, hts⟩ (kX11_gives l D cy h0 a0 s0 o17 r8 hr8.symm H.size) (cwV 1 hts gX11_believers_X11_gives rfl rfl rfl (by decide +kernel) ⟨Nat.le_of_ble_eq_true rfl, Nat.le_of_ble_eq_true rfl⟩) hK hN hP hD [0] rfl rfl (ci := 11) (q0 := 0) rfl rfl rfl rfl hl.1 rfl (Nat.le_of_ble_eq_true rfl) dX11_believers_55 ⟨Nat.le_refl 0, Nat.le_refl 0⟩) hP hD hS hA [0] ⟨rfl, rfl, rfl, rfl⟩ (fun H locs hP hD hS => ?_)
    exact hret 58 H locs ls (r8.1, r8.2) (Option.some.inj h) hP hD hS dX11_believers_58
  · replace h := (if_pos c2).symm.trans h
    refine lv_aload_n hx hb dX11_believers_7 rfl (lv_at hl 0 rfl) ?_
    refine lv_iconst (v := 1) hx hb dX11_believers_8 (by decide) ?_
    obtain ⟨r9, hr9, h⟩ := lt_elim h
    refine ca_i (w' := [WX11 cy h0 a0 r9.2]) (rn_V (As := [.int (1 : Int32)]) (rest := []) ⟨hx, hb, hml, hown, hts⟩ (kX11_refuse l D cy h0 a0 s0 (1 : Int32) r9 hr9.symm H.size) (cwV 1 hts gX11_believers_X11_refuse rfl rfl rfl (by decide +kernel) ⟨Nat.le_of_ble_eq_true rfl, Nat.le_of_ble_eq_true rfl⟩) hK hN hP hD [0] rfl rfl (ci := 11) (q0 := 0) rfl rfl rfl rfl hl.1 rfl (Nat.le_of_ble_eq_true rfl) dX11_believers_9 ⟨Nat.le_refl 0, Nat.le_refl 0⟩) hP hD hS hA [0] ⟨rfl, rfl, rfl, rfl⟩ (fun H locs hP hD hS => ?_)
    exact hret 12 H locs ls (r9.1, r9.2) (Option.some.inj h) hP hD hS dX11_believers_12
theorem dX11_plain_0 : decode cX11_plain 0 = .ok (.iconst 0, 1) := by decide +kernel
theorem dX11_plain_1 : decode cX11_plain 1 = .ok (.istore_n 2, 1) := by decide +kernel
theorem dX11_plain_2 : decode cX11_plain 2 = .ok (.iload_n 2, 1) := by decide +kernel
theorem dX11_plain_3 : decode cX11_plain 3 = .ok (.sipush 1040, 3) := by decide +kernel
theorem dX11_plain_6 : decode cX11_plain 6 = .ok (.if_icmp .ge 18, 3) := by decide +kernel
theorem dX11_plain_9 : decode cX11_plain 9 = .ok (.aload_n 0, 1) := by decide +kernel
theorem dX11_plain_10 : decode cX11_plain 10 = .ok (.getfield 7, 3) := by decide +kernel
theorem dX11_plain_13 : decode cX11_plain 13 = .ok (.iload_n 1, 1) := by decide +kernel
theorem dX11_plain_14 : decode cX11_plain 14 = .ok (.iload_n 2, 1) := by decide +kernel
theorem dX11_plain_15 : decode cX11_plain 15 = .ok (.iadd, 1) := by decide +kernel
theorem dX11_plain_16 : decode cX11_plain 16 = .ok (.iconst 0, 1) := by decide +kernel
theorem dX11_plain_17 : decode cX11_plain 17 = .ok (.iastore, 1) := by decide +kernel
theorem dX11_plain_18 : decode cX11_plain 18 = .ok (.iinc 2 1, 3) := by decide +kernel
theorem dX11_plain_21 : decode cX11_plain 21 = .ok (.goto (-19), 3) := by decide +kernel
theorem dX11_plain_24 : decode cX11_plain 24 = .ok (.aload_n 0, 1) := by decide +kernel
theorem dX11_plain_25 : decode cX11_plain 25 = .ok (.getfield 7, 3) := by decide +kernel
theorem dX11_plain_28 : decode cX11_plain 28 = .ok (.iload_n 1, 1) := by decide +kernel
theorem dX11_plain_29 : decode cX11_plain 29 = .ok (.iconst 3, 1) := by decide +kernel
theorem dX11_plain_30 : decode cX11_plain 30 = .ok (.iadd, 1) := by decide +kernel
theorem dX11_plain_31 : decode cX11_plain 31 = .ok (.iconst (-1), 1) := by decide +kernel
theorem dX11_plain_32 : decode cX11_plain 32 = .ok (.iastore, 1) := by decide +kernel
theorem dX11_plain_33 : decode cX11_plain 33 = .ok (.return_, 1) := by decide +kernel
abbrev rmX11_plain : Room := { frames := 0, cells := 0, slots := 0, locals := 0 }
set_option maxHeartbeats 4000000 in
set_option maxRecDepth 100000 in
theorem kX11_plain (l : Launch) (D : va_G) (cy : Nat → ClassId) (h0 : Nat) (a0 : Nat → Nat) (s0 : Rc) (p1 : Int32) (res : Rc) (h : fX11_plain p1 s0 = some res) : CV l D cy yX11_plain wsX11_plain rmX11_plain [.ref h0, .int p1] (flat [WX11 cy h0 a0 s0]) (flat [WX11 cy h0 a0 res]) := by
  refine CV.of (cc := cX11_plain) (maxL := 3) (by decide) rfl (Nat.le_of_ble_eq_true rfl) ?_
  intro p e s m args below meth c A QQ ls E hr
  obtain ⟨hx, hb, hml, hown, hts, hK, hN, hP, hD, hA, hl⟩ := E
  have hret : ∀ (pc : Nat) (H : Heap) (locs : List Loc) (ls : Array Slot) (u : Rc), u = res → va_P D vwCl (flat [WX11 cy h0 a0 u]) H → va_D A (flat [WX11 cy h0 a0 u]) → va_S A s.heap H locs → decode cX11_plain pc = .ok (.return_, 1) → W p l e rmX11_plain s m args below meth c H locs 0 0 QQ (F0 m pc ls []) := by
    intro pc H locs ls u hu hP hD hS hd; subst hu; exact hr pc H locs ls hP hD hS hd
  clear hr
  have hl : lv_has ls 3 [(0, .ref h0), (1, .int p1)] := hl
  have hinX11 : ∀ w ∈ wsX110, w ∈ wsX11_plain := fun _ h => List.mem_cons_of_mem _ (List.mem_append_right _ h)
  unfold fX11_plain at h
  suffices key : ∀ (H : Heap) (locs : List Loc), va_P D vwCl (flat [WX11 cy h0 a0 s0]) H → va_S A s.heap H locs → W p l e rmX11_plain s m args below meth c H locs 0 0 QQ (F0 m 0 ls []) from key _ _ hP va_S.rf
  clear hP
  intro H locs hP hS
  refine lv_iconst (v := 0) hx hb dX11_plain_0 (by decide) ?_
  refine lv_istore_n (lv' := [(2, .int (0 : Int32)), (0, .ref h0), (1, .int p1)]) hx hb dX11_plain_1 rfl hl (by decide) rfl (fun ls hl => ?_)
  have L2 : ∀ (n : Nat) (q2 : Int32 × Rc) (o : Rc), loopO (fX11_plain_L2 p1) n q2 = some o → ∀ (H : Heap) (locs : List Loc) (ls : Array Slot), lv_has ls 3 [(0, .ref h0), (1, .int p1), (2, .int q2.1)] → va_P D vwCl (flat [WX11 cy h0 a0 q2.2]) H → va_D A (flat [WX11 cy h0 a0 q2.2]) → va_S A s.heap H locs → ∀ (kk24 : ∀ (H : Heap) (locs : List Loc) (ls : Array Slot), lv_has ls 3 [(0, .ref h0), (1, .int p1)] → va_P D vwCl (flat [WX11 cy h0 a0 o]) H → va_D A (flat [WX11 cy h0 a0 o]) → va_S A s.heap H locs → W p l e rmX11_plain s m args below meth c H locs 0 0 QQ (F0 m 24 ls [])), W p l e rmX11_plain s m args below meth c H locs 0 0 QQ (F0 m 2 ls []) := by
    intro n
    induction n with
    | zero => intro q2 o h; exact absurd h (by rw [loopO_zero]; intro z; cases z)
    | succ n ih =>
      intro q2 o h H locs ls hl hP hD hS kk24
      obtain ⟨w, h, hgo, hst⟩ := loopO_elim h
      unfold fX11_plain_L2 at h
      refine lv_iload_n hx hb dX11_plain_2 rfl (lv_at hl 2 rfl) ?_
      refine lv_sipush (v := 1040) hx hb dX11_plain_3 (by decide) ?_
      refine lv_icmp_ge (tgt := 24) hx hb dX11_plain_6 (by decide) (fun c1 => ?_) (fun c1 => ?_)
      · replace h := (if_pos c1).symm.trans h
        have eo := hst _ (Option.some.inj h).symm
        subst eo
        exact kk24 H locs ls (lv_sub hl [0, 1] rfl) hP hD hS
      · replace h := (if_neg c1).symm.trans h
        refine lv_aload_n hx hb dX11_plain_9 rfl (lv_at hl 0 rfl) ?_
        refine va_get (D := D) (ci := 11) (v := .ref (a0 0)) (C := RX11) (T := TX11) (N := 38) hx hb hts hinX11 hown hK hP 0 rfl rfl 0 (by decide) (hts (.fieldLink RX11 7 "KneeBenchModel" "at" "[I") (List.mem_of_getElem? (i := 1) rfl)) (fun _ h9 => h9) rfl dX11_plain_10 ?_
        refine lv_iload_n hx hb dX11_plain_13 rfl (lv_at hl 1 rfl) ?_
        refine lv_iload_n hx hb dX11_plain_14 rfl (lv_at hl 2 rfl) ?_
        refine lv_iadd hx hb dX11_plain_15 ?_
        refine lv_iconst (v := 0) hx hb dX11_plain_16 (by decide) ?_
        obtain ⟨g2, h⟩ := gd_elim h
        obtain ⟨s0_3, es, h⟩ := lt_elim h
        refine va_iast hx hb hK hP hD hS 1 1 rfl rfl (inb_in g2) dX11_plain_17 (fun H locs hP hD hS => ?_)
        have hP : va_P D vwCl (flat [WX11 cy h0 a0 s0_3]) H := by rw [es]; exact hP
        have hD : va_D A (flat [WX11 cy h0 a0 s0_3]) := by rw [es]; exact hD
        clear es
        refine lv_iinc (v := (q2.1 + (1 : Int32))) (lv' := [(2, .int (q2.1 + (1 : Int32))), (0, .ref h0), (1, .int p1)]) hx hb dX11_plain_18 hl (k := 2) rfl rfl (by decide) rfl (fun ls hl => ?_)
        refine lv_goto (tgt := 2) hx hb dX11_plain_21 (by decide) ?_
        exact ih _ o (hgo _ (Option.some.inj h).symm) H locs ls (lv_sub hl [1, 2, 0] rfl) hP hD hS kk24
  obtain ⟨o2, ho2, h⟩ := bd_elim h
  obtain ⟨n2, hn2⟩ := loopF_some ho2
  refine L2 n2 _ o2 hn2 H locs ls (lv_sub hl [1, 2, 0] rfl) hP hD hS (fun H locs ls hl hP hD hS => ?_)
  refine lv_aload_n hx hb dX11_plain_24 rfl (lv_at hl 0 rfl) ?_
  refine va_get (D := D) (ci := 11) (v := .ref (a0 0)) (C := RX11) (T := TX11) (N := 38) hx hb hts hinX11 hown hK hP 0 rfl rfl 0 (by decide) (hts (.fieldLink RX11 7 "KneeBenchModel" "at" "[I") (List.mem_of_getElem? (i := 1) rfl)) (fun _ h9 => h9) rfl dX11_plain_25 ?_
  refine lv_iload_n hx hb dX11_plain_28 rfl (lv_at hl 1 rfl) ?_
  refine lv_iconst (v := 3) hx hb dX11_plain_29 (by decide) ?_
  refine lv_iadd hx hb dX11_plain_30 ?_
  refine lv_iconst (v := -1) hx hb dX11_plain_31 (by decide) ?_
  obtain ⟨g4, h⟩ := gd_elim h
  obtain ⟨s0_5, es, h⟩ := lt_elim h
  refine va_iast hx hb hK hP hD hS 1 1 rfl rfl (inb_in g4) dX11_plain_32 (fun H locs hP hD hS => ?_)
  have hP : va_P D vwCl (flat [WX11 cy h0 a0 s0_5]) H := by rw [es]; exact hP
  have hD : va_D A (flat [WX11 cy h0 a0 s0_5]) := by rw [es]; exact hD
  clear es
  exact hret 33 H locs ls s0_5 (Option.some.inj h) hP hD hS dX11_plain_33
theorem dX11_isSign_0 : decode cX11_isSign 0 = .ok (.aload_n 0, 1) := by decide +kernel
theorem dX11_isSign_1 : decode cX11_isSign 1 = .ok (.getfield 120, 3) := by decide +kernel
theorem dX11_isSign_4 : decode cX11_isSign 4 = .ok (.iconst 4, 1) := by decide +kernel
theorem dX11_isSign_5 : decode cX11_isSign 5 = .ok (.if_icmp .ne 15, 3) := by decide +kernel
theorem dX11_isSign_8 : decode cX11_isSign 8 = .ok (.aload_n 0, 1) := by decide +kernel
theorem dX11_isSign_9 : decode cX11_isSign 9 = .ok (.getfield 117, 3) := by decide +kernel
theorem dX11_isSign_12 : decode cX11_isSign 12 = .ok (.iload_n 1, 1) := by decide +kernel
theorem dX11_isSign_13 : decode cX11_isSign 13 = .ok (.if_icmp .ne 7, 3) := by decide +kernel
theorem dX11_isSign_16 : decode cX11_isSign 16 = .ok (.iconst 1, 1) := by decide +kernel
theorem dX11_isSign_17 : decode cX11_isSign 17 = .ok (.goto 4, 3) := by decide +kernel
theorem dX11_isSign_20 : decode cX11_isSign 20 = .ok (.iconst 0, 1) := by decide +kernel
theorem dX11_isSign_21 : decode cX11_isSign 21 = .ok (.ireturn, 1) := by decide +kernel
abbrev rmX11_isSign : Room := { frames := 0, cells := 0, slots := 0, locals := 0 }
set_option maxHeartbeats 4000000 in
set_option maxRecDepth 100000 in
theorem kX11_isSign (l : Launch) (D : va_G) (cy : Nat → ClassId) (h0 : Nat) (a0 : Nat → Nat) (s0 : Rc) (p1 : Int32) (res : Int32) (h : fX11_isSign p1 s0 = res) : CZ l D cy yX11_isSign wsX11_isSign rmX11_isSign [.ref h0, .int p1] (flat [WX11 cy h0 a0 s0]) (flat [WX11 cy h0 a0 s0]) res := by
  refine CZ.of (cc := cX11_isSign) (maxL := 2) (by decide) rfl (Nat.le_of_ble_eq_true rfl) ?_
  intro p e s m args below meth c A QQ ls E hr
  obtain ⟨hx, hb, hml, hown, hts, hK, hN, hP, hD, hA, hl⟩ := E
  have hret : ∀ (pc : Nat) (H : Heap) (locs : List Loc) (ls : Array Slot) (u : Int32), u = res → va_P D vwCl (flat [WX11 cy h0 a0 s0]) H → va_D A (flat [WX11 cy h0 a0 s0]) → va_S A s.heap H locs → isb u = true → decode cX11_isSign pc = .ok (.ireturn, 1) → W p l e rmX11_isSign s m args below meth c H locs 0 0 QQ (F0 m pc ls [.int u]) := by
    intro pc H locs ls u hu hP hD hS hz hd; subst hu; exact hr pc H locs ls _ rfl hP hD hS hz hd
  clear hr
  have hl : lv_has ls 2 [(0, .ref h0), (1, .int p1)] := hl
  have hinX11 : ∀ w ∈ wsX110, w ∈ wsX11_isSign := fun _ h => List.mem_cons_of_mem _ (List.mem_append_right _ h)
  unfold fX11_isSign at h
  suffices key : ∀ (H : Heap) (locs : List Loc), va_P D vwCl (flat [WX11 cy h0 a0 s0]) H → va_S A s.heap H locs → W p l e rmX11_isSign s m args below meth c H locs 0 0 QQ (F0 m 0 ls []) from key _ _ hP va_S.rf
  clear hP
  intro H locs hP hS
  refine lv_aload_n hx hb dX11_isSign_0 rfl (lv_at hl 0 rfl) ?_
  refine va_get (D := D) (ci := 11) (v := .int (gi s0 12)) (C := RX11) (T := TX11) (N := 38) hx hb hts hinX11 hown hK hP 0 rfl rfl 12 (by decide) (hts (.fieldLink RX11 120 "KneeBenchModel" "token" "I") (List.mem_of_getElem? (i := 1) rfl)) (fun _ h9 => h9) rfl dX11_isSign_1 ?_
  refine lv_iconst (v := 4) hx hb dX11_isSign_4 (by decide) ?_
  refine lv_icmp_ne (tgt := 20) hx hb dX11_isSign_5 (by decide) (fun c1 => ?_) (fun c1 => ?_)
  · replace h := (if_neg c1).symm.trans h
    refine lv_iconst (v := 0) hx hb dX11_isSign_20 (by decide) ?_
    exact hret 21 H locs ls (0 : Int32) h hP hD hS (show isb (0 : Int32) = true by decide) dX11_isSign_21
  · replace h := (if_pos c1).symm.trans h
    refine lv_aload_n hx hb dX11_isSign_8 rfl (lv_at hl 0 rfl) ?_
    refine va_get (D := D) (ci := 11) (v := .int (gi s0 15)) (C := RX11) (T := TX11) (N := 38) hx hb hts hinX11 hown hK hP 0 rfl rfl 15 (by decide) (hts (.fieldLink RX11 117 "KneeBenchModel" "value" "I") (List.mem_of_getElem? (i := 2) rfl)) (fun _ h9 => h9) rfl dX11_isSign_9 ?_
    refine lv_iload_n hx hb dX11_isSign_12 rfl (lv_at hl 1 rfl) ?_
    refine lv_icmp_ne (tgt := 20) hx hb dX11_isSign_13 (by decide) (fun c2 => ?_) (fun c2 => ?_)
    · replace h := (if_neg c2).symm.trans h
      refine lv_iconst (v := 0) hx hb dX11_isSign_20 (by decide) ?_
      exact hret 21 H locs ls (0 : Int32) h hP hD hS (show isb (0 : Int32) = true by decide) dX11_isSign_21
    · replace h := (if_pos c2).symm.trans h
      refine lv_iconst (v := 1) hx hb dX11_isSign_16 (by decide) ?_
      refine lv_goto (tgt := 21) hx hb dX11_isSign_17 (by decide) ?_
      exact hret 21 H locs ls (1 : Int32) h hP hD hS (show isb (1 : Int32) = true by decide) dX11_isSign_21
theorem gd_X11_wantSign : wsX11_wantSign.all goodWord = true := by decide +kernel
set_option maxRecDepth 20000 in
theorem ggX11_wantSign_X11_isSign : GoodIn wsX11_wantSign wsX11_isSign := goodIn_by gd_X11_wantSign (List.forall_mem_cons.mpr ⟨List.mem_cons_of_mem _ (List.mem_append_left _ (List.mem_append_left _ (List.mem_of_getElem? (i := 4) rfl))), List.forall_mem_append.mpr ⟨List.forall_mem_cons.mpr ⟨List.mem_cons_of_mem _ (List.mem_append_left _ (List.mem_append_left _ (List.mem_of_getElem? (i := 5) rfl))), List.forall_mem_cons.mpr ⟨List.mem_cons_of_mem _ (List.mem_append_left _ (List.mem_append_left _ (List.mem_of_getElem? (i := 6) rfl))), nowords_in⟩⟩, (fun _ h => List.mem_cons_of_mem _ (List.mem_append_right _ (h)))⟩⟩)
set_option maxRecDepth 20000 in
theorem gX11_wantSign_X11_isSign : GoodIn wsX11_wantSign (wsV RX11 154 RX11 yX11_isSign wsX11_isSign) := goodIn_app (goodIn_by gd_X11_wantSign (List.forall_mem_cons.mpr ⟨List.mem_cons_of_mem _ (List.mem_append_left _ (List.mem_append_left _ (List.mem_of_getElem? (i := 0) rfl))), List.forall_mem_cons.mpr ⟨List.mem_cons_of_mem _ (List.mem_append_left _ (List.mem_append_left _ (List.mem_of_getElem? (i := 1) rfl))), List.forall_mem_cons.mpr ⟨List.mem_cons_of_mem _ (List.mem_append_left _ (List.mem_append_left _ (List.mem_of_getElem? (i := 2) rfl))), List.forall_mem_cons.mpr ⟨List.mem_cons_of_mem _ (List.mem_append_left _ (List.mem_append_left _ (List.mem_of_getElem? (i := 3) rfl))), nowords_in⟩⟩⟩⟩)) ggX11_wantSign_X11_isSign
set_option maxRecDepth 20000 in
theorem ggX11_wantSign_X11_fails : GoodIn wsX11_wantSign wsX11_fails := goodIn_by gd_X11_wantSign (List.forall_mem_cons.mpr ⟨List.mem_cons_of_mem _ (List.mem_append_left _ (List.mem_append_left _ (List.mem_of_getElem? (i := 10) rfl))), List.forall_mem_append.mpr ⟨List.forall_mem_cons.mpr ⟨List.mem_cons_of_mem _ (List.mem_append_left _ (List.mem_append_left _ (List.mem_of_getElem? (i := 11) rfl))), List.forall_mem_cons.mpr ⟨List.mem_cons_of_mem _ (List.mem_append_left _ (List.mem_append_left _ (List.mem_of_getElem? (i := 5) rfl))), List.forall_mem_cons.mpr ⟨List.mem_cons_of_mem _ (List.mem_append_left _ (List.mem_append_left _ (List.mem_of_getElem? (i := 12) rfl))), List.forall_mem_cons.mpr ⟨List.mem_cons_of_mem _ (List.mem_append_left _ (List.mem_append_left _ (List.mem_of_getElem? (i := 13) rfl))), nowords_in⟩⟩⟩⟩, (fun _ h => List.mem_cons_of_mem _ (List.mem_append_right _ (h)))⟩⟩)
set_option maxRecDepth 20000 in
theorem gX11_wantSign_X11_fails : GoodIn wsX11_wantSign (wsV RX11 157 RX11 yX11_fails wsX11_fails) := goodIn_app (goodIn_by gd_X11_wantSign (List.forall_mem_cons.mpr ⟨List.mem_cons_of_mem _ (List.mem_append_left _ (List.mem_append_left _ (List.mem_of_getElem? (i := 7) rfl))), List.forall_mem_cons.mpr ⟨List.mem_cons_of_mem _ (List.mem_append_left _ (List.mem_append_left _ (List.mem_of_getElem? (i := 8) rfl))), List.forall_mem_cons.mpr ⟨List.mem_cons_of_mem _ (List.mem_append_left _ (List.mem_append_left _ (List.mem_of_getElem? (i := 9) rfl))), List.forall_mem_cons.mpr ⟨List.mem_cons_of_mem _ (List.mem_append_left _ (List.mem_append_left _ (List.mem_of_getElem? (i := 3) rfl))), nowords_in⟩⟩⟩⟩)) ggX11_wantSign_X11_fails
set_option maxRecDepth 20000 in
theorem ggX11_wantSign_X11_ahead : GoodIn wsX11_wantSign wsX11_ahead := goodIn_by gd_X11_wantSign (List.forall_mem_cons.mpr ⟨List.mem_cons_of_mem _ (List.mem_append_left _ (List.mem_append_left _ (List.mem_of_getElem? (i := 17) rfl))), List.forall_mem_append.mpr ⟨List.forall_mem_cons.mpr ⟨List.mem_cons_of_mem _ (List.mem_append_left _ (List.mem_append_left _ (List.mem_of_getElem? (i := 18) rfl))), List.forall_mem_cons.mpr ⟨List.mem_cons_of_mem _ (List.mem_append_left _ (List.mem_append_left _ (List.mem_of_getElem? (i := 12) rfl))), List.forall_mem_cons.mpr ⟨List.mem_cons_of_mem _ (List.mem_append_left _ (List.mem_append_left _ (List.mem_of_getElem? (i := 6) rfl))), List.forall_mem_cons.mpr ⟨List.mem_cons_of_mem _ (List.mem_append_left _ (List.mem_append_left _ (List.mem_of_getElem? (i := 5) rfl))), List.forall_mem_cons.mpr ⟨List.mem_cons_of_mem _ (List.mem_append_left _ (List.mem_append_left _ (List.mem_of_getElem? (i := 19) rfl))), List.forall_mem_cons.mpr ⟨List.mem_cons_of_mem _ (List.mem_append_left _ (List.mem_append_left _ (List.mem_of_getElem? (i := 20) rfl))), List.forall_mem_cons.mpr ⟨List.mem_cons_of_mem _ (List.mem_append_left _ (List.mem_append_left _ (List.mem_of_getElem? (i := 21) rfl))), List.forall_mem_cons.mpr ⟨List.mem_cons_of_mem _ (List.mem_append_left _ (List.mem_append_left _ (List.mem_of_getElem? (i := 22) rfl))), List.forall_mem_cons.mpr ⟨List.mem_cons_of_mem _ (List.mem_append_left _ (List.mem_append_left _ (List.mem_of_getElem? (i := 23) rfl))), List.forall_mem_cons.mpr ⟨List.mem_cons_of_mem _ (List.mem_append_left _ (List.mem_append_right _ (List.mem_of_getElem? (i := 0) rfl))), List.forall_mem_cons.mpr ⟨List.mem_cons_of_mem _ (List.mem_append_left _ (List.mem_append_right _ (List.mem_of_getElem? (i := 1) rfl))), List.forall_mem_cons.mpr ⟨List.mem_cons_of_mem _ (List.mem_append_left _ (List.mem_append_right _ (List.mem_of_getElem? (i := 2) rfl))), List.forall_mem_cons.mpr ⟨List.mem_cons_of_mem _ (List.mem_append_left _ (List.mem_append_left _ (List.mem_of_getElem? (i := 3) rfl))), List.forall_mem_cons.mpr ⟨List.mem_cons_of_mem _ (List.mem_append_left _ (List.mem_append_right _ (List.mem_of_getElem? (i := 3) rfl))), List.forall_mem_cons.mpr ⟨List.mem_cons_of_mem _ (List.mem_append_left _ (List.mem_append_right _ (List.mem_of_getElem? (i := 4) rfl))), List.forall_mem_cons.mpr ⟨List.mem_cons_of_mem _ (List.mem_append_left _ (List.mem_append_right _ (List.mem_of_getElem? (i := 5) rfl))), List.forall_mem_cons.mpr ⟨List.mem_cons_of_mem _ (List.mem_append_left _ (List.mem_append_right _ (List.mem_of_getElem? (i := 6) rfl))), List.forall_mem_cons.mpr ⟨List.mem_cons_of_mem _ (List.mem_append_left _ (List.mem_append_right _ (List.mem_of_getElem? (i := 7) rfl))), List.forall_mem_cons.mpr ⟨List.mem_cons_of_mem _ (List.mem_append_left _ (List.mem_append_right _ (List.mem_of_getElem? (i := 8) rfl))), List.forall_mem_cons.mpr ⟨List.mem_cons_of_mem _ (List.mem_append_left _ (List.mem_append_right _ (List.mem_of_getElem? (i := 9) rfl))), List.forall_mem_cons.mpr ⟨List.mem_cons_of_mem _ (List.mem_append_left _ (List.mem_append_right _ (List.mem_of_getElem? (i := 10) rfl))), List.forall_mem_cons.mpr ⟨List.mem_cons_of_mem _ (List.mem_append_left _ (List.mem_append_right _ (List.mem_of_getElem? (i := 11) rfl))), nowords_in⟩⟩⟩⟩⟩⟩⟩⟩⟩⟩⟩⟩⟩⟩⟩⟩⟩⟩⟩⟩⟩⟩, (fun _ h => List.mem_cons_of_mem _ (List.mem_append_right _ (h)))⟩⟩)
set_option maxRecDepth 20000 in
theorem gX11_wantSign_X11_ahead : GoodIn wsX11_wantSign (wsV RX11 151 RX11 yX11_ahead wsX11_ahead) := goodIn_app (goodIn_by gd_X11_wantSign (List.forall_mem_cons.mpr ⟨List.mem_cons_of_mem _ (List.mem_append_left _ (List.mem_append_left _ (List.mem_of_getElem? (i := 14) rfl))), List.forall_mem_cons.mpr ⟨List.mem_cons_of_mem _ (List.mem_append_left _ (List.mem_append_left _ (List.mem_of_getElem? (i := 15) rfl))), List.forall_mem_cons.mpr ⟨List.mem_cons_of_mem _ (List.mem_append_left _ (List.mem_append_left _ (List.mem_of_getElem? (i := 16) rfl))), List.forall_mem_cons.mpr ⟨List.mem_cons_of_mem _ (List.mem_append_left _ (List.mem_append_left _ (List.mem_of_getElem? (i := 3) rfl))), nowords_in⟩⟩⟩⟩)) ggX11_wantSign_X11_ahead
theorem dX11_wantSign_0 : decode cX11_wantSign 0 = .ok (.aload_n 0, 1) := by decide +kernel
theorem dX11_wantSign_1 : decode cX11_wantSign 1 = .ok (.iload_n 1, 1) := by decide +kernel
theorem dX11_wantSign_2 : decode cX11_wantSign 2 = .ok (.invokevirtual 154, 3) := by decide +kernel
theorem dX11_wantSign_5 : decode cX11_wantSign 5 = .ok (.ifCond .ne 9, 3) := by decide +kernel
theorem dX11_wantSign_8 : decode cX11_wantSign 8 = .ok (.aload_n 0, 1) := by decide +kernel
theorem dX11_wantSign_9 : decode cX11_wantSign 9 = .ok (.iconst 2, 1) := by decide +kernel
theorem dX11_wantSign_10 : decode cX11_wantSign 10 = .ok (.invokevirtual 157, 3) := by decide +kernel
theorem dX11_wantSign_13 : decode cX11_wantSign 13 = .ok (.ireturn, 1) := by decide +kernel
theorem dX11_wantSign_14 : decode cX11_wantSign 14 = .ok (.aload_n 0, 1) := by decide +kernel
theorem dX11_wantSign_15 : decode cX11_wantSign 15 = .ok (.invokevirtual 151, 3) := by decide +kernel
theorem dX11_wantSign_18 : decode cX11_wantSign 18 = .ok (.iconst 1, 1) := by decide +kernel
theorem dX11_wantSign_19 : decode cX11_wantSign 19 = .ok (.ireturn, 1) := by decide +kernel
abbrev rmX11_wantSign : Room := { frames := 2, cells := 0, slots := 0, locals := 42 }
set_option maxHeartbeats 4000000 in
set_option maxRecDepth 100000 in
theorem kX11_wantSign (l : Launch) (D : va_G) (cy : Nat → ClassId) (h0 : Nat) (a0 : Nat → Nat) (s0 : Rc) (p1 : Int32) (res : Int32 × Rc) (h : fX11_wantSign p1 s0 = some res) : CZ l D cy yX11_wantSign wsX11_wantSign rmX11_wantSign [.ref h0, .int p1] (flat [WX11 cy h0 a0 s0]) (flat [WX11 cy h0 a0 res.2]) res.1 := by
  refine CZ.of (cc := cX11_wantSign) (maxL := 2) (by decide) rfl (Nat.le_of_ble_eq_true rfl) ?_
  intro p e s m args below meth c A QQ ls E hr
  obtain ⟨hx, hb, hml, hown, hts, hK, hN, hP, hD, hA, hl⟩ := E
  have hret : ∀ (pc : Nat) (H : Heap) (locs : List Loc) (ls : Array Slot) (u : Int32 × Rc), u = res → va_P D vwCl (flat [WX11 cy h0 a0 u.2]) H → va_D A (flat [WX11 cy h0 a0 u.2]) → va_S A s.heap H locs → isb u.1 = true → decode cX11_wantSign pc = .ok (.ireturn, 1) → W p l e rmX11_wantSign s m args below meth c H locs 0 0 QQ (F0 m pc ls [.int u.1]) := by
    intro pc H locs ls u hu hP hD hS hz hd; subst hu; exact hr pc H locs ls _ rfl hP hD hS hz hd
  clear hr
  have hl : lv_has ls 2 [(0, .ref h0), (1, .int p1)] := hl
  unfold fX11_wantSign at h
  suffices key : ∀ (H : Heap) (locs : List Loc), va_P D vwCl (flat [WX11 cy h0 a0 s0]) H → va_S A s.heap H locs → W p l e rmX11_wantSign s m args below meth c H locs 0 0 QQ (F0 m 0 ls []) from key _ _ hP va_S.rf
  clear hP
  intro H locs hP hS
  refine lv_aload_n hx hb dX11_wantSign_0 rfl (lv_at hl 0 rfl) ?_
  refine lv_iload_n hx hb dX11_wantSign_1 rfl (lv_at hl 1 rfl) ?_
  refine ca_z (w' := [WX11 cy h0 a0 s0]) (rn_V (As := [.int p1]) (rest := []) ⟨hx, hb, hml, hown, hts⟩ (kX11_isSign l D cy h0 a0 s0 p1 _ rfl H.size) (cwV 1 hts gX11_wantSign_X11_isSign rfl rfl rfl (by decide +kernel) ⟨Nat.le_of_ble_eq_true rfl, Nat.le_of_ble_eq_true rfl⟩) hK hN hP hD [0] rfl rfl (ci := 11) (q0 := 0) rfl rfl rfl rfl hl.1 rfl (Nat.le_of_ble_eq_true rfl) dX11_wantSign_2 ⟨Nat.le_refl 0, Nat.le_refl 0⟩) hP hD hS hA [0] ⟨rfl, rfl, rfl, rfl⟩ (fun b1 H locs hP hD hS => ?_)
  refine lv_if_ne (tgt := 14) hx hb dX11_wantSign_5 (by decide) (fun c2 => ?_) (fun c2 => ?_)
  · replace h := (if_neg c2).symm.trans h
    refine lv_aload_n hx hb dX11_wantSign_14 rfl (lv_at hl 0 rfl) ?_
    obtain ⟨r3, hr3, h⟩ := bd_elim h
    refine ca_v (w' := [WX11 cy h0 a0 r3]) (rn_V (As := []) (rest := []) ⟨hx, hb, hml, hown, hts⟩ (kX11_ahead l D cy h0 a0 s0 r3 hr3 H.size) (cwV 0 hts gX11_wantSign_X11_ahead rfl rfl rfl (by decide +kernel) ⟨Nat.le_of_ble_eq_true rfl, Nat.le_of_ble_eq_true rfl⟩) hK hN hP hD [0] rfl rfl (ci := 11) (q0 := 0) rfl rfl rfl rfl hl.1 rfl (Nat.le_of_ble_eq_true rfl) dX11_wantSign_15 ⟨Nat.le_refl 0, Nat.le_refl 0⟩) hP hD hS hA [0] ⟨rfl, rfl, rfl, rfl⟩ (fun H locs hP hD hS => ?_)
    refine lv_iconst (v := 1) hx hb dX11_wantSign_18 (by decide) ?_
    exact hret 19 H locs ls ((1 : Int32), r3) (Option.some.inj h) hP hD hS (show isb (1 : Int32) = true by decide) dX11_wantSign_19
  · replace h := (if_pos c2).symm.trans h
    refine lv_aload_n hx hb dX11_wantSign_8 rfl (lv_at hl 0 rfl) ?_
    refine lv_iconst (v := 2) hx hb dX11_wantSign_9 (by decide) ?_
    obtain ⟨r4, hr4, h⟩ := lt_elim h
    refine ca_z (w' := [WX11 cy h0 a0 r4.2]) (rn_V (As := [.int (2 : Int32)]) (rest := []) ⟨hx, hb, hml, hown, hts⟩ (kX11_fails l D cy h0 a0 s0 (2 : Int32) r4 hr4.symm H.size) (cwV 1 hts gX11_wantSign_X11_fails rfl rfl rfl (by decide +kernel) ⟨Nat.le_of_ble_eq_true rfl, Nat.le_of_ble_eq_true rfl⟩) hK hN hP hD [0] rfl rfl (ci := 11) (q0 := 0) rfl rfl rfl rfl hl.1 rfl (Nat.le_of_ble_eq_true rfl) dX11_wantSign_10 ⟨Nat.le_refl 0, Nat.le_refl 0⟩) hP hD hS hA [0] ⟨rfl, rfl, rfl, rfl⟩ (fun b5 H locs hP hD hS => ?_)
    exact hret 13 H locs ls (r4.1, r4.2) (Option.some.inj h) hP hD hS b5 dX11_wantSign_13
theorem gd_X11_comesFor : wsX11_comesFor.all goodWord = true := by decide +kernel
set_option maxRecDepth 20000 in
theorem ggX11_comesFor_X11_farmerRow : GoodIn wsX11_comesFor wsX11_farmerRow := goodIn_by gd_X11_comesFor (List.forall_mem_cons.mpr ⟨List.mem_cons_of_mem _ (List.mem_append_left _ (List.mem_of_getElem? (i := 4) rfl)), nowords_in⟩)
set_option maxRecDepth 20000 in
theorem gX11_comesFor_X11_farmerRow : GoodIn wsX11_comesFor (va_wsS RX11 177 yX11_farmerRow wsX11_farmerRow) := goodIn_app (goodIn_by gd_X11_comesFor (List.forall_mem_cons.mpr ⟨List.mem_cons_of_mem _ (List.mem_append_left _ (List.mem_of_getElem? (i := 1) rfl)), List.forall_mem_cons.mpr ⟨List.mem_cons_of_mem _ (List.mem_append_left _ (List.mem_of_getElem? (i := 2) rfl)), List.forall_mem_cons.mpr ⟨List.mem_cons_of_mem _ (List.mem_append_left _ (List.mem_of_getElem? (i := 3) rfl)), nowords_in⟩⟩⟩)) ggX11_comesFor_X11_farmerRow
theorem dX11_comesFor_0 : decode cX11_comesFor 0 = .ok (.aload_n 0, 1) := by decide +kernel
theorem dX11_comesFor_1 : decode cX11_comesFor 1 = .ok (.getfield 7, 3) := by decide +kernel
theorem dX11_comesFor_4 : decode cX11_comesFor 4 = .ok (.bipush 122, 2) := by decide +kernel
theorem dX11_comesFor_6 : decode cX11_comesFor 6 = .ok (.iload_n 2, 1) := by decide +kernel
theorem dX11_comesFor_7 : decode cX11_comesFor 7 = .ok (.iadd, 1) := by decide +kernel
theorem dX11_comesFor_8 : decode cX11_comesFor 8 = .ok (.iaload, 1) := by decide +kernel
theorem dX11_comesFor_9 : decode cX11_comesFor 9 = .ok (.aload_n 0, 1) := by decide +kernel
theorem dX11_comesFor_10 : decode cX11_comesFor 10 = .ok (.getfield 7, 3) := by decide +kernel
theorem dX11_comesFor_13 : decode cX11_comesFor 13 = .ok (.iconst 0, 1) := by decide +kernel
theorem dX11_comesFor_14 : decode cX11_comesFor 14 = .ok (.iload_n 1, 1) := by decide +kernel
theorem dX11_comesFor_15 : decode cX11_comesFor 15 = .ok (.invokestatic 177, 3) := by decide +kernel
theorem dX11_comesFor_18 : decode cX11_comesFor 18 = .ok (.iconst 3, 1) := by decide +kernel
theorem dX11_comesFor_19 : decode cX11_comesFor 19 = .ok (.iadd, 1) := by decide +kernel
theorem dX11_comesFor_20 : decode cX11_comesFor 20 = .ok (.iaload, 1) := by decide +kernel
theorem dX11_comesFor_21 : decode cX11_comesFor 21 = .ok (.if_icmp .le 7, 3) := by decide +kernel
theorem dX11_comesFor_24 : decode cX11_comesFor 24 = .ok (.iconst 1, 1) := by decide +kernel
theorem dX11_comesFor_25 : decode cX11_comesFor 25 = .ok (.goto 4, 3) := by decide +kernel
theorem dX11_comesFor_28 : decode cX11_comesFor 28 = .ok (.iconst 0, 1) := by decide +kernel
theorem dX11_comesFor_29 : decode cX11_comesFor 29 = .ok (.ireturn, 1) := by decide +kernel
abbrev rmX11_comesFor : Room := { frames := 1, cells := 0, slots := 0, locals := 21 }
set_option maxHeartbeats 4000000 in
set_option maxRecDepth 100000 in
theorem kX11_comesFor (l : Launch) (D : va_G) (cy : Nat → ClassId) (h0 : Nat) (a0 : Nat → Nat) (s0 : Rc) (p1 : Int32) (p2 : Int32) (res : Int32) (h : fX11_comesFor p1 p2 s0 = some res) : CZ l D cy yX11_comesFor wsX11_comesFor rmX11_comesFor [.ref h0, .int p1, .int p2] (flat [WX11 cy h0 a0 s0]) (flat [WX11 cy h0 a0 s0]) res := by
  refine CZ.of (cc := cX11_comesFor) (maxL := 3) (by decide) rfl (Nat.le_of_ble_eq_true rfl) ?_
  intro p e s m args below meth c A QQ ls E hr
  obtain ⟨hx, hb, hml, hown, hts, hK, hN, hP, hD, hA, hl⟩ := E
  have hret : ∀ (pc : Nat) (H : Heap) (locs : List Loc) (ls : Array Slot) (u : Int32), u = res → va_P D vwCl (flat [WX11 cy h0 a0 s0]) H → va_D A (flat [WX11 cy h0 a0 s0]) → va_S A s.heap H locs → isb u = true → decode cX11_comesFor pc = .ok (.ireturn, 1) → W p l e rmX11_comesFor s m args below meth c H locs 0 0 QQ (F0 m pc ls [.int u]) := by
    intro pc H locs ls u hu hP hD hS hz hd; subst hu; exact hr pc H locs ls _ rfl hP hD hS hz hd
  clear hr
  have hl : lv_has ls 3 [(0, .ref h0), (1, .int p1), (2, .int p2)] := hl
  have hinX11 : ∀ w ∈ wsX110, w ∈ wsX11_comesFor := fun _ h => List.mem_cons_of_mem _ (List.mem_append_right _ h)
  unfold fX11_comesFor at h
  suffices key : ∀ (H : Heap) (locs : List Loc), va_P D vwCl (flat [WX11 cy h0 a0 s0]) H → va_S A s.heap H locs → W p l e rmX11_comesFor s m args below meth c H locs 0 0 QQ (F0 m 0 ls []) from key _ _ hP va_S.rf
  clear hP
  intro H locs hP hS
  refine lv_aload_n hx hb dX11_comesFor_0 rfl (lv_at hl 0 rfl) ?_
  refine va_get (D := D) (ci := 11) (v := .ref (a0 0)) (C := RX11) (T := TX11) (N := 38) hx hb hts hinX11 hown hK hP 0 rfl rfl 0 (by decide) (hts (.fieldLink RX11 7 "KneeBenchModel" "at" "[I") (List.mem_of_getElem? (i := 1) rfl)) (fun _ h9 => h9) rfl dX11_comesFor_1 ?_
  refine lv_bipush (v := 122) hx hb dX11_comesFor_4 (by decide) ?_
  refine lv_iload_n hx hb dX11_comesFor_6 rfl (lv_at hl 2 rfl) ?_
  refine lv_iadd hx hb dX11_comesFor_7 ?_
  obtain ⟨g1, h⟩ := gd_elim h
  refine va_iald hx hb hK hP 1 1 rfl rfl (inb_in g1) dX11_comesFor_8 ?_
  refine lv_aload_n hx hb dX11_comesFor_9 rfl (lv_at hl 0 rfl) ?_
  refine va_get (D := D) (ci := 11) (v := .ref (a0 0)) (C := RX11) (T := TX11) (N := 38) hx hb hts hinX11 hown hK hP 0 rfl rfl 0 (by decide) (hts (.fieldLink RX11 7 "KneeBenchModel" "at" "[I") (List.mem_of_getElem? (i := 1) rfl)) (fun _ h9 => h9) rfl dX11_comesFor_10 ?_
  refine lv_iconst (v := 0) hx hb dX11_comesFor_13 (by decide) ?_
  refine lv_iload_n hx hb dX11_comesFor_14 rfl (lv_at hl 1 rfl) ?_
  refine ca_i (w' := [WX11 cy h0 a0 s0]) (rn_S (As := [.int (0 : Int32), .int p1]) (rest := [.ref (a0 0), .int (ga s0 0 ((122 : Int32) + p2).toNatClampNeg)]) ⟨hx, hb, hml, hown, hts⟩ (kX11_farmerRow l D cy (0 : Int32) p1 _ rfl H.size) (va_cwS 2 hts gX11_comesFor_X11_farmerRow rfl rfl rfl (by decide +kernel) ⟨Nat.le_of_ble_eq_true rfl, Nat.le_of_ble_eq_true rfl⟩) hK hN hP hD [] rfl rfl rfl hl.1 rfl (Nat.le_of_ble_eq_true rfl) dX11_comesFor_15 ⟨Nat.le_refl 0, Nat.le_refl 0⟩) hP hD hS hA [] ⟨rfl, rfl, rfl, rfl⟩ (fun H locs hP hD hS => ?_)
  refine lv_iconst (v := 3) hx hb dX11_comesFor_18 (by decide) ?_
  refine lv_iadd hx hb dX11_comesFor_19 ?_
  obtain ⟨g2, h⟩ := gd_elim h
  refine va_iald hx hb hK hP 1 1 rfl rfl (inb_in g2) dX11_comesFor_20 ?_
  refine lv_icmp_le (tgt := 28) hx hb dX11_comesFor_21 (by decide) (fun c3 => ?_) (fun c3 => ?_)
  · replace h := (if_pos c3).symm.trans h
    refine lv_iconst (v := 0) hx hb dX11_comesFor_28 (by decide) ?_
    exact hret 29 H locs ls (0 : Int32) (Option.some.inj h) hP hD hS (show isb (0 : Int32) = true by decide) dX11_comesFor_29
  · replace h := (if_neg c3).symm.trans h
    refine lv_iconst (v := 1) hx hb dX11_comesFor_24 (by decide) ?_
    refine lv_goto (tgt := 29) hx hb dX11_comesFor_25 (by decide) ?_
    exact hret 29 H locs ls (1 : Int32) (Option.some.inj h) hP hD hS (show isb (1 : Int32) = true by decide) dX11_comesFor_29
theorem gd_X11_shouldFeel : wsX11_shouldFeel.all goodWord = true := by decide +kernel
set_option maxRecDepth 20000 in
theorem ggX11_shouldFeel_X11_lagOf : GoodIn wsX11_shouldFeel wsX11_lagOf := goodIn_by gd_X11_shouldFeel (List.forall_mem_cons.mpr ⟨List.mem_cons_of_mem _ (List.mem_append_left _ (List.mem_of_getElem? (i := 4) rfl)), List.forall_mem_append.mpr ⟨List.forall_mem_cons.mpr ⟨List.mem_cons_of_mem _ (List.mem_append_left _ (List.mem_of_getElem? (i := 5) rfl)), List.forall_mem_cons.mpr ⟨List.mem_cons_of_mem _ (List.mem_append_left _ (List.mem_of_getElem? (i := 6) rfl)), List.forall_mem_cons.mpr ⟨List.mem_cons_of_mem _ (List.mem_append_left _ (List.mem_of_getElem? (i := 7) rfl)), List.forall_mem_cons.mpr ⟨List.mem_cons_of_mem _ (List.mem_append_left _ (List.mem_of_getElem? (i := 3) rfl)), List.forall_mem_cons.mpr ⟨List.mem_cons_of_mem _ (List.mem_append_left _ (List.mem_of_getElem? (i := 8) rfl)), nowords_in⟩⟩⟩⟩⟩, (fun _ h => List.mem_cons_of_mem _ (List.mem_append_right _ (h)))⟩⟩)
set_option maxRecDepth 20000 in
theorem gX11_shouldFeel_X11_lagOf : GoodIn wsX11_shouldFeel (wsV RX11 252 RX11 yX11_lagOf wsX11_lagOf) := goodIn_app (goodIn_by gd_X11_shouldFeel (List.forall_mem_cons.mpr ⟨List.mem_cons_of_mem _ (List.mem_append_left _ (List.mem_of_getElem? (i := 0) rfl)), List.forall_mem_cons.mpr ⟨List.mem_cons_of_mem _ (List.mem_append_left _ (List.mem_of_getElem? (i := 1) rfl)), List.forall_mem_cons.mpr ⟨List.mem_cons_of_mem _ (List.mem_append_left _ (List.mem_of_getElem? (i := 2) rfl)), List.forall_mem_cons.mpr ⟨List.mem_cons_of_mem _ (List.mem_append_left _ (List.mem_of_getElem? (i := 3) rfl)), nowords_in⟩⟩⟩⟩)) ggX11_shouldFeel_X11_lagOf
set_option maxRecDepth 20000 in
theorem ggX11_shouldFeel_X11_isDay : GoodIn wsX11_shouldFeel wsX11_isDay := goodIn_by gd_X11_shouldFeel (List.forall_mem_cons.mpr ⟨List.mem_cons_of_mem _ (List.mem_append_left _ (List.mem_of_getElem? (i := 12) rfl)), List.forall_mem_append.mpr ⟨List.forall_mem_cons.mpr ⟨List.mem_cons_of_mem _ (List.mem_append_left _ (List.mem_of_getElem? (i := 5) rfl)), nowords_in⟩, (fun _ h => List.mem_cons_of_mem _ (List.mem_append_right _ (h)))⟩⟩)
set_option maxRecDepth 20000 in
theorem gX11_shouldFeel_X11_isDay : GoodIn wsX11_shouldFeel (wsV RX11 255 RX11 yX11_isDay wsX11_isDay) := goodIn_app (goodIn_by gd_X11_shouldFeel (List.forall_mem_cons.mpr ⟨List.mem_cons_of_mem _ (List.mem_append_left _ (List.mem_of_getElem? (i := 9) rfl)), List.forall_mem_cons.mpr ⟨List.mem_cons_of_mem _ (List.mem_append_left _ (List.mem_of_getElem? (i := 10) rfl)), List.forall_mem_cons.mpr ⟨List.mem_cons_of_mem _ (List.mem_append_left _ (List.mem_of_getElem? (i := 11) rfl)), List.forall_mem_cons.mpr ⟨List.mem_cons_of_mem _ (List.mem_append_left _ (List.mem_of_getElem? (i := 3) rfl)), nowords_in⟩⟩⟩⟩)) ggX11_shouldFeel_X11_isDay
set_option maxRecDepth 20000 in
theorem ggX11_shouldFeel_X11_comesFor : GoodIn wsX11_shouldFeel wsX11_comesFor := goodIn_by gd_X11_shouldFeel (List.forall_mem_cons.mpr ⟨List.mem_cons_of_mem _ (List.mem_append_left _ (List.mem_of_getElem? (i := 16) rfl)), List.forall_mem_append.mpr ⟨List.forall_mem_cons.mpr ⟨List.mem_cons_of_mem _ (List.mem_append_left _ (List.mem_of_getElem? (i := 5) rfl)), List.forall_mem_cons.mpr ⟨List.mem_cons_of_mem _ (List.mem_append_left _ (List.mem_of_getElem? (i := 6) rfl)), List.forall_mem_cons.mpr ⟨List.mem_cons_of_mem _ (List.mem_append_left _ (List.mem_of_getElem? (i := 7) rfl)), List.forall_mem_cons.mpr ⟨List.mem_cons_of_mem _ (List.mem_append_left _ (List.mem_of_getElem? (i := 3) rfl)), List.forall_mem_cons.mpr ⟨List.mem_cons_of_mem _ (List.mem_append_left _ (List.mem_of_getElem? (i := 8) rfl)), nowords_in⟩⟩⟩⟩⟩, (fun _ h => List.mem_cons_of_mem _ (List.mem_append_right _ (h)))⟩⟩)
set_option maxRecDepth 20000 in
theorem gX11_shouldFeel_X11_comesFor : GoodIn wsX11_shouldFeel (wsV RX11 258 RX11 yX11_comesFor wsX11_comesFor) := goodIn_app (goodIn_by gd_X11_shouldFeel (List.forall_mem_cons.mpr ⟨List.mem_cons_of_mem _ (List.mem_append_left _ (List.mem_of_getElem? (i := 13) rfl)), List.forall_mem_cons.mpr ⟨List.mem_cons_of_mem _ (List.mem_append_left _ (List.mem_of_getElem? (i := 14) rfl)), List.forall_mem_cons.mpr ⟨List.mem_cons_of_mem _ (List.mem_append_left _ (List.mem_of_getElem? (i := 15) rfl)), List.forall_mem_cons.mpr ⟨List.mem_cons_of_mem _ (List.mem_append_left _ (List.mem_of_getElem? (i := 3) rfl)), nowords_in⟩⟩⟩⟩)) ggX11_shouldFeel_X11_comesFor
set_option maxRecDepth 20000 in
theorem ggX11_shouldFeel_X11_isWell : GoodIn wsX11_shouldFeel wsX11_isWell := goodIn_by gd_X11_shouldFeel (List.forall_mem_cons.mpr ⟨List.mem_cons_of_mem _ (List.mem_append_left _ (List.mem_of_getElem? (i := 20) rfl)), List.forall_mem_append.mpr ⟨List.forall_mem_cons.mpr ⟨List.mem_cons_of_mem _ (List.mem_append_left _ (List.mem_of_getElem? (i := 5) rfl)), List.forall_mem_cons.mpr ⟨List.mem_cons_of_mem _ (List.mem_append_left _ (List.mem_of_getElem? (i := 6) rfl)), List.forall_mem_cons.mpr ⟨List.mem_cons_of_mem _ (List.mem_append_left _ (List.mem_of_getElem? (i := 7) rfl)), List.forall_mem_cons.mpr ⟨List.mem_cons_of_mem _ (List.mem_append_left _ (List.mem_of_getElem? (i := 3) rfl)), List.forall_mem_cons.mpr ⟨List.mem_cons_of_mem _ (List.mem_append_left _ (List.mem_of_getElem? (i := 8) rfl)), nowords_in⟩⟩⟩⟩⟩, (fun _ h => List.mem_cons_of_mem _ (List.mem_append_right _ (h)))⟩⟩)
set_option maxRecDepth 20000 in
theorem gX11_shouldFeel_X11_isWell : GoodIn wsX11_shouldFeel (wsV RX11 261 RX11 yX11_isWell wsX11_isWell) := goodIn_app (goodIn_by gd_X11_shouldFeel (List.forall_mem_cons.mpr ⟨List.mem_cons_of_mem _ (List.mem_append_left _ (List.mem_of_getElem? (i := 17) rfl)), List.forall_mem_cons.mpr ⟨List.mem_cons_of_mem _ (List.mem_append_left _ (List.mem_of_getElem? (i := 18) rfl)), List.forall_mem_cons.mpr ⟨List.mem_cons_of_mem _ (List.mem_append_left _ (List.mem_of_getElem? (i := 19) rfl)), List.forall_mem_cons.mpr ⟨List.mem_cons_of_mem _ (List.mem_append_left _ (List.mem_of_getElem? (i := 3) rfl)), nowords_in⟩⟩⟩⟩)) ggX11_shouldFeel_X11_isWell
theorem dX11_shouldFeel_0 : decode cX11_shouldFeel 0 = .ok (.aload_n 0, 1) := by decide +kernel
theorem dX11_shouldFeel_1 : decode cX11_shouldFeel 1 = .ok (.iload_n 2, 1) := by decide +kernel
theorem dX11_shouldFeel_2 : decode cX11_shouldFeel 2 = .ok (.aload_n 0, 1) := by decide +kernel
theorem dX11_shouldFeel_3 : decode cX11_shouldFeel 3 = .ok (.iload_n 1, 1) := by decide +kernel
theorem dX11_shouldFeel_4 : decode cX11_shouldFeel 4 = .ok (.invokevirtual 252, 3) := by decide +kernel
theorem dX11_shouldFeel_7 : decode cX11_shouldFeel 7 = .ok (.iadd, 1) := by decide +kernel
theorem dX11_shouldFeel_8 : decode cX11_shouldFeel 8 = .ok (.invokevirtual 255, 3) := by decide +kernel
theorem dX11_shouldFeel_11 : decode cX11_shouldFeel 11 = .ok (.ifCond .eq 31, 3) := by decide +kernel
theorem dX11_shouldFeel_14 : decode cX11_shouldFeel 14 = .ok (.aload_n 0, 1) := by decide +kernel
theorem dX11_shouldFeel_15 : decode cX11_shouldFeel 15 = .ok (.iload_n 1, 1) := by decide +kernel
theorem dX11_shouldFeel_16 : decode cX11_shouldFeel 16 = .ok (.iload_n 2, 1) := by decide +kernel
theorem dX11_shouldFeel_17 : decode cX11_shouldFeel 17 = .ok (.aload_n 0, 1) := by decide +kernel
theorem dX11_shouldFeel_18 : decode cX11_shouldFeel 18 = .ok (.iload_n 1, 1) := by decide +kernel
theorem dX11_shouldFeel_19 : decode cX11_shouldFeel 19 = .ok (.invokevirtual 252, 3) := by decide +kernel
theorem dX11_shouldFeel_22 : decode cX11_shouldFeel 22 = .ok (.iadd, 1) := by decide +kernel
theorem dX11_shouldFeel_23 : decode cX11_shouldFeel 23 = .ok (.invokevirtual 258, 3) := by decide +kernel
theorem dX11_shouldFeel_26 : decode cX11_shouldFeel 26 = .ok (.ifCond .eq 16, 3) := by decide +kernel
theorem dX11_shouldFeel_29 : decode cX11_shouldFeel 29 = .ok (.aload_n 0, 1) := by decide +kernel
theorem dX11_shouldFeel_30 : decode cX11_shouldFeel 30 = .ok (.iload_n 1, 1) := by decide +kernel
theorem dX11_shouldFeel_31 : decode cX11_shouldFeel 31 = .ok (.iload_n 2, 1) := by decide +kernel
theorem dX11_shouldFeel_32 : decode cX11_shouldFeel 32 = .ok (.invokevirtual 261, 3) := by decide +kernel
theorem dX11_shouldFeel_35 : decode cX11_shouldFeel 35 = .ok (.ifCond .ne 7, 3) := by decide +kernel
theorem dX11_shouldFeel_38 : decode cX11_shouldFeel 38 = .ok (.iconst 1, 1) := by decide +kernel
theorem dX11_shouldFeel_39 : decode cX11_shouldFeel 39 = .ok (.goto 4, 3) := by decide +kernel
theorem dX11_shouldFeel_42 : decode cX11_shouldFeel 42 = .ok (.iconst 0, 1) := by decide +kernel
theorem dX11_shouldFeel_43 : decode cX11_shouldFeel 43 = .ok (.ireturn, 1) := by decide +kernel
abbrev rmX11_shouldFeel : Room := { frames := 2, cells := 0, slots := 0, locals := 43 }
set_option maxHeartbeats 4000000 in
set_option maxRecDepth 100000 in
theorem kX11_shouldFeel (l : Launch) (D : va_G) (cy : Nat → ClassId) (h0 : Nat) (a0 : Nat → Nat) (s0 : Rc) (p1 : Int32) (p2 : Int32) (res : Int32) (h : fX11_shouldFeel p1 p2 s0 = some res) : CZ l D cy yX11_shouldFeel wsX11_shouldFeel rmX11_shouldFeel [.ref h0, .int p1, .int p2] (flat [WX11 cy h0 a0 s0]) (flat [WX11 cy h0 a0 s0]) res := by
  refine CZ.of (cc := cX11_shouldFeel) (maxL := 3) (by decide) rfl (Nat.le_of_ble_eq_true rfl) ?_
  intro p e s m args below meth c A QQ ls E hr
  obtain ⟨hx, hb, hml, hown, hts, hK, hN, hP, hD, hA, hl⟩ := E
  have hret : ∀ (pc : Nat) (H : Heap) (locs : List Loc) (ls : Array Slot) (u : Int32), u = res → va_P D vwCl (flat [WX11 cy h0 a0 s0]) H → va_D A (flat [WX11 cy h0 a0 s0]) → va_S A s.heap H locs → isb u = true → decode cX11_shouldFeel pc = .ok (.ireturn, 1) → W p l e rmX11_shouldFeel s m args below meth c H locs 0 0 QQ (F0 m pc ls [.int u]) := by
    intro pc H locs ls u hu hP hD hS hz hd; subst hu; exact hr pc H locs ls _ rfl hP hD hS hz hd
  clear hr
  have hl : lv_has ls 3 [(0, .ref h0), (1, .int p1), (2, .int p2)] := hl
  unfold fX11_shouldFeel at h
  suffices key : ∀ (H : Heap) (locs : List Loc), va_P D vwCl (flat [WX11 cy h0 a0 s0]) H → va_S A s.heap H locs → W p l e rmX11_shouldFeel s m args below meth c H locs 0 0 QQ (F0 m 0 ls []) from key _ _ hP va_S.rf
  clear hP
  intro H locs hP hS
  refine lv_aload_n hx hb dX11_shouldFeel_0 rfl (lv_at hl 0 rfl) ?_
  refine lv_iload_n hx hb dX11_shouldFeel_1 rfl (lv_at hl 2 rfl) ?_
  refine lv_aload_n hx hb dX11_shouldFeel_2 rfl (lv_at hl 0 rfl) ?_
  refine lv_iload_n hx hb dX11_shouldFeel_3 rfl (lv_at hl 1 rfl) ?_
  obtain ⟨r1, hr1, h⟩ := bd_elim h
  refine ca_i (w' := [WX11 cy h0 a0 s0]) (rn_V (As := [.int p1]) (rest := [.int p2, .ref h0]) ⟨hx, hb, hml, hown, hts⟩ (kX11_lagOf l D cy h0 a0 s0 p1 r1 hr1 H.size) (cwV 1 hts gX11_shouldFeel_X11_lagOf rfl rfl rfl (by decide +kernel) ⟨Nat.le_of_ble_eq_true rfl, Nat.le_of_ble_eq_true rfl⟩) hK hN hP hD [0] rfl rfl (ci := 11) (q0 := 0) rfl rfl rfl rfl hl.1 rfl (Nat.le_of_ble_eq_true rfl) dX11_shouldFeel_4 ⟨Nat.le_refl 0, Nat.le_refl 0⟩) hP hD hS hA [0] ⟨rfl, rfl, rfl, rfl⟩ (fun H locs hP hD hS => ?_)
  refine lv_iadd hx hb dX11_shouldFeel_7 ?_
  refine ca_z (w' := [WX11 cy h0 a0 s0]) (rn_V (As := [.int (p2 + r1)]) (rest := []) ⟨hx, hb, hml, hown, hts⟩ (kX11_isDay l D cy h0 a0 s0 (p2 + r1) _ rfl H.size) (cwV 1 hts gX11_shouldFeel_X11_isDay rfl rfl rfl (by decide +kernel) ⟨Nat.le_of_ble_eq_true rfl, Nat.le_of_ble_eq_true rfl⟩) hK hN hP hD [0] rfl rfl (ci := 11) (q0 := 0) rfl rfl rfl rfl hl.1 rfl (Nat.le_of_ble_eq_true rfl) dX11_shouldFeel_8 ⟨Nat.le_refl 0, Nat.le_refl 0⟩) hP hD hS hA [0] ⟨rfl, rfl, rfl, rfl⟩ (fun b2 H locs hP hD hS => ?_)
  refine lv_if_eq (tgt := 42) hx hb dX11_shouldFeel_11 (by decide) (fun c3 => ?_) (fun c3 => ?_)
  · replace h := (if_pos c3).symm.trans h
    refine lv_iconst (v := 0) hx hb dX11_shouldFeel_42 (by decide) ?_
    exact hret 43 H locs ls (0 : Int32) (Option.some.inj h) hP hD hS (show isb (0 : Int32) = true by decide) dX11_shouldFeel_43
  · replace h := (if_neg c3).symm.trans h
    refine lv_aload_n hx hb dX11_shouldFeel_14 rfl (lv_at hl 0 rfl) ?_
    refine lv_iload_n hx hb dX11_shouldFeel_15 rfl (lv_at hl 1 rfl) ?_
    refine lv_iload_n hx hb dX11_shouldFeel_16 rfl (lv_at hl 2 rfl) ?_
    refine lv_aload_n hx hb dX11_shouldFeel_17 rfl (lv_at hl 0 rfl) ?_
    refine lv_iload_n hx hb dX11_shouldFeel_18 rfl (lv_at hl 1 rfl) ?_
    obtain ⟨r4, hr4, h⟩ := bd_elim h
    refine ca_i (w' := [WX11 cy h0 a0 s0]) (rn_V (As := [.int p1]) (rest := [.int p2, .int p1, .ref h0]) ⟨hx, hb, hml, hown, hts⟩ (kX11_lagOf l D cy h0 a0 s0 p1 r4 hr4 H.size) (cwV 1 hts gX11_shouldFeel_X11_lagOf rfl rfl rfl (by decide +kernel) ⟨Nat.le_of_ble_eq_true rfl, Nat.le_of_ble_eq_true rfl⟩) hK hN hP hD [0] rfl rfl (ci := 11) (q0 := 0) rfl rfl rfl rfl hl.1 rfl (Nat.le_of_ble_eq_true rfl) dX11_shouldFeel_19 ⟨Nat.le_refl 0, Nat.le_refl 0⟩) hP hD hS hA [0] ⟨rfl, rfl, rfl, rfl⟩ (fun H locs hP hD hS => ?_)
    refine lv_iadd hx hb dX11_shouldFeel_22 ?_
    obtain ⟨r5, hr5, h⟩ := bd_elim h
    refine ca_z (w' := [WX11 cy h0 a0 s0]) (rn_V (As := [.int p1, .int (p2 + r4)]) (rest := []) ⟨hx, hb, hml, hown, hts⟩ (kX11_comesFor l D cy h0 a0 s0 p1 (p2 + r4) r5 hr5 H.size) (cwV 2 hts gX11_shouldFeel_X11_comesFor rfl rfl rfl (by decide +kernel) ⟨Nat.le_of_ble_eq_true rfl, Nat.le_of_ble_eq_true rfl⟩) hK hN hP hD [0] rfl rfl (ci := 11) (q0 := 0) rfl rfl rfl rfl hl.1 rfl (Nat.le_of_ble_eq_true rfl) dX11_shouldFeel_23 ⟨Nat.le_refl 0, Nat.le_refl 0⟩) hP hD hS hA [0] ⟨rfl, rfl, rfl, rfl⟩ (fun b6 H locs hP hD hS => ?_)
    refine lv_if_eq (tgt := 42) hx hb dX11_shouldFeel_26 (by decide) (fun c7 => ?_) (fun c7 => ?_)
    · replace h := (if_pos c7).symm.trans h
      refine lv_iconst (v := 0) hx hb dX11_shouldFeel_42 (by decide) ?_
      exact hret 43 H locs ls (0 : Int32) (Option.some.inj h) hP hD hS (show isb (0 : Int32) = true by decide) dX11_shouldFeel_43
    · replace h := (if_neg c7).symm.trans h
      refine lv_aload_n hx hb dX11_shouldFeel_29 rfl (lv_at hl 0 rfl) ?_
      refine lv_iload_n hx hb dX11_shouldFeel_30 rfl (lv_at hl 1 rfl) ?_
      refine lv_iload_n hx hb dX11_shouldFeel_31 rfl (lv_at hl 2 rfl) ?_
      obtain ⟨r8, hr8, h⟩ := bd_elim h
      refine ca_z (w' := [WX11 cy h0 a0 s0]) (rn_V (As := [.int p1, .int p2]) (rest := []) ⟨hx, hb, hml, hown, hts⟩ (kX11_isWell l D cy h0 a0 s0 p1 p2 r8 hr8 H.size) (cwV 2 hts gX11_shouldFeel_X11_isWell rfl rfl rfl (by decide +kernel) ⟨Nat.le_of_ble_eq_true rfl, Nat.le_of_ble_eq_true rfl⟩) hK hN hP hD [0] rfl rfl (ci := 11) (q0 := 0) rfl rfl rfl rfl hl.1 rfl (Nat.le_of_ble_eq_true rfl) dX11_shouldFeel_32 ⟨Nat.le_refl 0, Nat.le_refl 0⟩) hP hD hS hA [0] ⟨rfl, rfl, rfl, rfl⟩ (fun b9 H locs hP hD hS => ?_)
      refine lv_if_ne (tgt := 42) hx hb dX11_shouldFeel_35 (by decide) (fun c10 => ?_) (fun c10 => ?_)
      · replace h := (if_neg c10).symm.trans h
        refine lv_iconst (v := 0) hx hb dX11_shouldFeel_42 (by decide) ?_
        exact hret 43 H locs ls (0 : Int32) (Option.some.inj h) hP hD hS (show isb (0 : Int32) = true by decide) dX11_shouldFeel_43
      · replace h := (if_pos c10).symm.trans h
        refine lv_iconst (v := 1) hx hb dX11_shouldFeel_38 (by decide) ?_
        refine lv_goto (tgt := 43) hx hb dX11_shouldFeel_39 (by decide) ?_
        exact hret 43 H locs ls (1 : Int32) (Option.some.inj h) hP hD hS (show isb (1 : Int32) = true by decide) dX11_shouldFeel_43
theorem gd_X11_taken : wsX11_taken.all goodWord = true := by decide +kernel
set_option maxRecDepth 20000 in
theorem ggX11_taken_X11_refuse : GoodIn wsX11_taken wsX11_refuse := goodIn_by gd_X11_taken (List.forall_mem_cons.mpr ⟨List.mem_cons_of_mem _ (List.mem_append_left _ (List.mem_of_getElem? (i := 6) rfl)), List.forall_mem_append.mpr ⟨List.forall_mem_cons.mpr ⟨List.mem_cons_of_mem _ (List.mem_append_left _ (List.mem_of_getElem? (i := 7) rfl)), nowords_in⟩, (fun _ h => List.mem_cons_of_mem _ (List.mem_append_right _ (h)))⟩⟩)
set_option maxRecDepth 20000 in
theorem gX11_taken_X11_refuse : GoodIn wsX11_taken (wsV RX11 75 RX11 yX11_refuse wsX11_refuse) := goodIn_app (goodIn_by gd_X11_taken (List.forall_mem_cons.mpr ⟨List.mem_cons_of_mem _ (List.mem_append_left _ (List.mem_of_getElem? (i := 2) rfl)), List.forall_mem_cons.mpr ⟨List.mem_cons_of_mem _ (List.mem_append_left _ (List.mem_of_getElem? (i := 3) rfl)), List.forall_mem_cons.mpr ⟨List.mem_cons_of_mem _ (List.mem_append_left _ (List.mem_of_getElem? (i := 4) rfl)), List.forall_mem_cons.mpr ⟨List.mem_cons_of_mem _ (List.mem_append_left _ (List.mem_of_getElem? (i := 5) rfl)), nowords_in⟩⟩⟩⟩)) ggX11_taken_X11_refuse
set_option maxRecDepth 20000 in
theorem ggX11_taken_X11_gives : GoodIn wsX11_taken wsX11_gives := goodIn_by gd_X11_taken (List.forall_mem_cons.mpr ⟨List.mem_cons_of_mem _ (List.mem_append_left _ (List.mem_of_getElem? (i := 11) rfl)), List.forall_mem_append.mpr ⟨List.forall_mem_cons.mpr ⟨List.mem_cons_of_mem _ (List.mem_append_left _ (List.mem_of_getElem? (i := 7) rfl)), nowords_in⟩, (fun _ h => List.mem_cons_of_mem _ (List.mem_append_right _ (h)))⟩⟩)
set_option maxRecDepth 20000 in
theorem gX11_taken_X11_gives : GoodIn wsX11_taken (wsV RX11 79 RX11 yX11_gives wsX11_gives) := goodIn_app (goodIn_by gd_X11_taken (List.forall_mem_cons.mpr ⟨List.mem_cons_of_mem _ (List.mem_append_left _ (List.mem_of_getElem? (i := 8) rfl)), List.forall_mem_cons.mpr ⟨List.mem_cons_of_mem _ (List.mem_append_left _ (List.mem_of_getElem? (i := 9) rfl)), List.forall_mem_cons.mpr ⟨List.mem_cons_of_mem _ (List.mem_append_left _ (List.mem_of_getElem? (i := 10) rfl)), List.forall_mem_cons.mpr ⟨List.mem_cons_of_mem _ (List.mem_append_left _ (List.mem_of_getElem? (i := 5) rfl)), nowords_in⟩⟩⟩⟩)) ggX11_taken_X11_gives
theorem dX11_taken_0 : decode cX11_taken 0 = .ok (.aload_n 0, 1) := by decide +kernel
theorem dX11_taken_1 : decode cX11_taken 1 = .ok (.aload_n 0, 1) := by decide +kernel
theorem dX11_taken_2 : decode cX11_taken 2 = .ok (.getfield 145, 3) := by decide +kernel
theorem dX11_taken_5 : decode cX11_taken 5 = .ok (.putfield 37, 3) := by decide +kernel
theorem dX11_taken_8 : decode cX11_taken 8 = .ok (.aload_n 0, 1) := by decide +kernel
theorem dX11_taken_9 : decode cX11_taken 9 = .ok (.getfield 145, 3) := by decide +kernel
theorem dX11_taken_12 : decode cX11_taken 12 = .ok (.ifCond .le 12, 3) := by decide +kernel
theorem dX11_taken_15 : decode cX11_taken 15 = .ok (.aload_n 0, 1) := by decide +kernel
theorem dX11_taken_16 : decode cX11_taken 16 = .ok (.bipush 9, 2) := by decide +kernel
theorem dX11_taken_18 : decode cX11_taken 18 = .ok (.invokevirtual 75, 3) := by decide +kernel
theorem dX11_taken_21 : decode cX11_taken 21 = .ok (.goto 8, 3) := by decide +kernel
theorem dX11_taken_24 : decode cX11_taken 24 = .ok (.aload_n 0, 1) := by decide +kernel
theorem dX11_taken_25 : decode cX11_taken 25 = .ok (.iload_n 1, 1) := by decide +kernel
theorem dX11_taken_26 : decode cX11_taken 26 = .ok (.invokevirtual 79, 3) := by decide +kernel
theorem dX11_taken_29 : decode cX11_taken 29 = .ok (.ireturn, 1) := by decide +kernel
abbrev rmX11_taken : Room := { frames := 1, cells := 0, slots := 0, locals := 21 }
set_option maxHeartbeats 4000000 in
set_option maxRecDepth 100000 in
theorem kX11_taken (l : Launch) (D : va_G) (cy : Nat → ClassId) (h0 : Nat) (a0 : Nat → Nat) (s0 : Rc) (p1 : Int32) (res : Int32 × Rc) (h : fX11_taken p1 s0 = res) : CI l D cy yX11_taken wsX11_taken rmX11_taken [.ref h0, .int p1] (flat [WX11 cy h0 a0 s0]) (flat [WX11 cy h0 a0 res.2]) res.1 := by
  refine CI.of (cc := cX11_taken) (maxL := 2) (by decide) rfl (Nat.le_of_ble_eq_true rfl) ?_
  intro p e s m args below meth c A QQ ls E hr
  obtain ⟨hx, hb, hml, hown, hts, hK, hN, hP, hD, hA, hl⟩ := E
  have hret : ∀ (pc : Nat) (H : Heap) (locs : List Loc) (ls : Array Slot) (u : Int32 × Rc), u = res → va_P D vwCl (flat [WX11 cy h0 a0 u.2]) H → va_D A (flat [WX11 cy h0 a0 u.2]) → va_S A s.heap H locs → decode cX11_taken pc = .ok (.ireturn, 1) → W p l e rmX11_taken s m args below meth c H locs 0 0 QQ (F0 m pc ls [.int u.1]) := by
    intro pc H locs ls u hu hP hD hS hd; subst hu; exact hr pc H locs ls _ rfl hP hD hS hd
  clear hr
  have hl : lv_has ls 2 [(0, .ref h0), (1, .int p1)] := hl
  have hinX11 : ∀ w ∈ wsX110, w ∈ wsX11_taken := fun _ h => List.mem_cons_of_mem _ (List.mem_append_right _ h)
  unfold fX11_taken at h
  suffices key : ∀ (H : Heap) (locs : List Loc), va_P D vwCl (flat [WX11 cy h0 a0 s0]) H → va_S A s.heap H locs → W p l e rmX11_taken s m args below meth c H locs 0 0 QQ (F0 m 0 ls []) from key _ _ hP va_S.rf
  clear hP
  intro H locs hP hS
  refine lv_aload_n hx hb dX11_taken_0 rfl (lv_at hl 0 rfl) ?_
  refine lv_aload_n hx hb dX11_taken_1 rfl (lv_at hl 0 rfl) ?_
  refine va_get (D := D) (ci := 11) (v := .int (gi s0 18)) (C := RX11) (T := TX11) (N := 38) hx hb hts hinX11 hown hK hP 0 rfl rfl 18 (by decide) (hts (.fieldLink RX11 145 "KneeBenchModel" "faults" "I") (List.mem_of_getElem? (i := 1) rfl)) (fun _ h9 => h9) rfl dX11_taken_2 ?_
  obtain ⟨s0_1, es, h⟩ := lt_elim h
  refine va_put (D := D) (ci := 11) (v := .int (gi s0 18)) (ty := .int) (C := RX11) (T := TX11) (N := 38) hx hb hts hinX11 tyX11 tyX11_ok nmX11 hown hK hP hD hS 0 rfl rfl 16 (by decide) (hts (.fieldLink RX11 37 "KneeBenchModel" "faultKind" "I") (List.mem_of_getElem? (i := 2) rfl)) (fun _ h9 => h9) rfl (by decide +kernel) rfl rfl (Nat.le_of_ble_eq_true rfl) dX11_taken_5 (fun H locs hP hD hS => ?_)
  have hP : va_P D vwCl (flat [WX11 cy h0 a0 s0_1]) H := by rw [es]; exact hP
  have hD : va_D A (flat [WX11 cy h0 a0 s0_1]) := by rw [es]; exact hD
  clear es
  refine lv_aload_n hx hb dX11_taken_8 rfl (lv_at hl 0 rfl) ?_
  refine va_get (D := D) (ci := 11) (v := .int (gi s0_1 18)) (C := RX11) (T := TX11) (N := 38) hx hb hts hinX11 hown hK hP 0 rfl rfl 18 (by decide) (hts (.fieldLink RX11 145 "KneeBenchModel" "faults" "I") (List.mem_of_getElem? (i := 1) rfl)) (fun _ h9 => h9) rfl dX11_taken_9 ?_
  refine lv_if_le (tgt := 24) hx hb dX11_taken_12 (by decide) (fun c2 => ?_) (fun c2 => ?_)
  · replace h := (if_pos c2).symm.trans h
    refine lv_aload_n hx hb dX11_taken_24 rfl (lv_at hl 0 rfl) ?_
    refine lv_iload_n hx hb dX11_taken_25 rfl (lv_at hl 1 rfl) ?_
    obtain ⟨r3, hr3, h⟩ := lt_elim h
    refine ca_i (w' := [WX11 cy h0 a0 r3.2]) (rn_V (As := [.int p1]) (rest := []) ⟨hx, hb, hml, hown, hts⟩ (kX11_gives l D cy h0 a0 s0_1 p1 r3 hr3.symm H.size) (cwV 1 hts gX11_taken_X11_gives rfl rfl rfl (by decide +kernel) ⟨Nat.le_of_ble_eq_true rfl, Nat.le_of_ble_eq_true rfl⟩) hK hN hP hD [0] rfl rfl (ci := 11) (q0 := 0) rfl rfl rfl rfl hl.1 rfl (Nat.le_of_ble_eq_true rfl) dX11_taken_26 ⟨Nat.le_refl 0, Nat.le_refl 0⟩) hP hD hS hA [0] ⟨rfl, rfl, rfl, rfl⟩ (fun H locs hP hD hS => ?_)
    exact hret 29 H locs ls (r3.1, r3.2) h hP hD hS dX11_taken_29
  · replace h := (if_neg c2).symm.trans h
    refine lv_aload_n hx hb dX11_taken_15 rfl (lv_at hl 0 rfl) ?_
    refine lv_bipush (v := 9) hx hb dX11_taken_16 (by decide) ?_
    obtain ⟨r4, hr4, h⟩ := lt_elim h
    refine ca_i (w' := [WX11 cy h0 a0 r4.2]) (rn_V (As := [.int (9 : Int32)]) (rest := []) ⟨hx, hb, hml, hown, hts⟩ (kX11_refuse l D cy h0 a0 s0_1 (9 : Int32) r4 hr4.symm H.size) (cwV 1 hts gX11_taken_X11_refuse rfl rfl rfl (by decide +kernel) ⟨Nat.le_of_ble_eq_true rfl, Nat.le_of_ble_eq_true rfl⟩) hK hN hP hD [0] rfl rfl (ci := 11) (q0 := 0) rfl rfl rfl rfl hl.1 rfl (Nat.le_of_ble_eq_true rfl) dX11_taken_18 ⟨Nat.le_refl 0, Nat.le_refl 0⟩) hP hD hS hA [0] ⟨rfl, rfl, rfl, rfl⟩ (fun H locs hP hD hS => ?_)
    refine lv_goto (tgt := 29) hx hb dX11_taken_21 (by decide) ?_
    exact hret 29 H locs ls (r4.1, r4.2) h hP hD hS dX11_taken_29
theorem dX11_isWet_0 : decode cX11_isWet 0 = .ok (.aload_n 0, 1) := by decide +kernel
theorem dX11_isWet_1 : decode cX11_isWet 1 = .ok (.getfield 7, 3) := by decide +kernel
theorem dX11_isWet_4 : decode cX11_isWet 4 = .ok (.bipush 122, 2) := by decide +kernel
theorem dX11_isWet_6 : decode cX11_isWet 6 = .ok (.iload_n 1, 1) := by decide +kernel
theorem dX11_isWet_7 : decode cX11_isWet 7 = .ok (.iadd, 1) := by decide +kernel
theorem dX11_isWet_8 : decode cX11_isWet 8 = .ok (.iaload, 1) := by decide +kernel
theorem dX11_isWet_9 : decode cX11_isWet 9 = .ok (.ifCond .le 7, 3) := by decide +kernel
theorem dX11_isWet_12 : decode cX11_isWet 12 = .ok (.iconst 1, 1) := by decide +kernel
theorem dX11_isWet_13 : decode cX11_isWet 13 = .ok (.goto 4, 3) := by decide +kernel
theorem dX11_isWet_16 : decode cX11_isWet 16 = .ok (.iconst 0, 1) := by decide +kernel
theorem dX11_isWet_17 : decode cX11_isWet 17 = .ok (.ireturn, 1) := by decide +kernel
abbrev rmX11_isWet : Room := { frames := 0, cells := 0, slots := 0, locals := 0 }
set_option maxHeartbeats 4000000 in
set_option maxRecDepth 100000 in
theorem kX11_isWet (l : Launch) (D : va_G) (cy : Nat → ClassId) (h0 : Nat) (a0 : Nat → Nat) (s0 : Rc) (p1 : Int32) (res : Int32) (h : fX11_isWet p1 s0 = some res) : CZ l D cy yX11_isWet wsX11_isWet rmX11_isWet [.ref h0, .int p1] (flat [WX11 cy h0 a0 s0]) (flat [WX11 cy h0 a0 s0]) res := by
  refine CZ.of (cc := cX11_isWet) (maxL := 2) (by decide) rfl (Nat.le_of_ble_eq_true rfl) ?_
  intro p e s m args below meth c A QQ ls E hr
  obtain ⟨hx, hb, hml, hown, hts, hK, hN, hP, hD, hA, hl⟩ := E
  have hret : ∀ (pc : Nat) (H : Heap) (locs : List Loc) (ls : Array Slot) (u : Int32), u = res → va_P D vwCl (flat [WX11 cy h0 a0 s0]) H → va_D A (flat [WX11 cy h0 a0 s0]) → va_S A s.heap H locs → isb u = true → decode cX11_isWet pc = .ok (.ireturn, 1) → W p l e rmX11_isWet s m args below meth c H locs 0 0 QQ (F0 m pc ls [.int u]) := by
    intro pc H locs ls u hu hP hD hS hz hd; subst hu; exact hr pc H locs ls _ rfl hP hD hS hz hd
  clear hr
  have hl : lv_has ls 2 [(0, .ref h0), (1, .int p1)] := hl
  have hinX11 : ∀ w ∈ wsX110, w ∈ wsX11_isWet := fun _ h => List.mem_cons_of_mem _ (List.mem_append_right _ h)
  unfold fX11_isWet at h
  suffices key : ∀ (H : Heap) (locs : List Loc), va_P D vwCl (flat [WX11 cy h0 a0 s0]) H → va_S A s.heap H locs → W p l e rmX11_isWet s m args below meth c H locs 0 0 QQ (F0 m 0 ls []) from key _ _ hP va_S.rf
  clear hP
  intro H locs hP hS
  refine lv_aload_n hx hb dX11_isWet_0 rfl (lv_at hl 0 rfl) ?_
  refine va_get (D := D) (ci := 11) (v := .ref (a0 0)) (C := RX11) (T := TX11) (N := 38) hx hb hts hinX11 hown hK hP 0 rfl rfl 0 (by decide) (hts (.fieldLink RX11 7 "KneeBenchModel" "at" "[I") (List.mem_of_getElem? (i := 1) rfl)) (fun _ h9 => h9) rfl dX11_isWet_1 ?_
  refine lv_bipush (v := 122) hx hb dX11_isWet_4 (by decide) ?_
  refine lv_iload_n hx hb dX11_isWet_6 rfl (lv_at hl 1 rfl) ?_
  refine lv_iadd hx hb dX11_isWet_7 ?_
  obtain ⟨g1, h⟩ := gd_elim h
  refine va_iald hx hb hK hP 1 1 rfl rfl (inb_in g1) dX11_isWet_8 ?_
  refine lv_if_le (tgt := 16) hx hb dX11_isWet_9 (by decide) (fun c2 => ?_) (fun c2 => ?_)
  · replace h := (if_pos c2).symm.trans h
    refine lv_iconst (v := 0) hx hb dX11_isWet_16 (by decide) ?_
    exact hret 17 H locs ls (0 : Int32) (Option.some.inj h) hP hD hS (show isb (0 : Int32) = true by decide) dX11_isWet_17
  · replace h := (if_neg c2).symm.trans h
    refine lv_iconst (v := 1) hx hb dX11_isWet_12 (by decide) ?_
    refine lv_goto (tgt := 17) hx hb dX11_isWet_13 (by decide) ?_
    exact hret 17 H locs ls (1 : Int32) (Option.some.inj h) hP hD hS (show isb (1 : Int32) = true by decide) dX11_isWet_17
theorem gd_X11_keptOf : wsX11_keptOf.all goodWord = true := by decide +kernel
set_option maxRecDepth 20000 in
theorem ggX11_keptOf_X11_sayOf : GoodIn wsX11_keptOf wsX11_sayOf := goodIn_by gd_X11_keptOf (List.forall_mem_cons.mpr ⟨List.mem_cons_of_mem _ (List.mem_append_left _ (List.mem_append_left _ (List.mem_of_getElem? (i := 5) rfl))), List.forall_mem_append.mpr ⟨List.forall_mem_append.mpr ⟨List.forall_mem_cons.mpr ⟨List.mem_cons_of_mem _ (List.mem_append_left _ (List.mem_append_left _ (List.mem_of_getElem? (i := 0) rfl))), List.forall_mem_cons.mpr ⟨List.mem_cons_of_mem _ (List.mem_append_left _ (List.mem_append_left _ (List.mem_of_getElem? (i := 6) rfl))), List.forall_mem_cons.mpr ⟨List.mem_cons_of_mem _ (List.mem_append_left _ (List.mem_append_left _ (List.mem_of_getElem? (i := 7) rfl))), List.forall_mem_cons.mpr ⟨List.mem_cons_of_mem _ (List.mem_append_left _ (List.mem_append_left _ (List.mem_of_getElem? (i := 8) rfl))), List.forall_mem_cons.mpr ⟨List.mem_cons_of_mem _ (List.mem_append_left _ (List.mem_append_left _ (List.mem_of_getElem? (i := 4) rfl))), List.forall_mem_cons.mpr ⟨List.mem_cons_of_mem _ (List.mem_append_left _ (List.mem_append_left _ (List.mem_of_getElem? (i := 9) rfl))), List.forall_mem_cons.mpr ⟨List.mem_cons_of_mem _ (List.mem_append_left _ (List.mem_append_left _ (List.mem_of_getElem? (i := 10) rfl))), List.forall_mem_cons.mpr ⟨List.mem_cons_of_mem _ (List.mem_append_left _ (List.mem_append_left _ (List.mem_of_getElem? (i := 11) rfl))), List.forall_mem_cons.mpr ⟨List.mem_cons_of_mem _ (List.mem_append_left _ (List.mem_append_left _ (List.mem_of_getElem? (i := 12) rfl))), List.forall_mem_cons.mpr ⟨List.mem_cons_of_mem _ (List.mem_append_left _ (List.mem_append_left _ (List.mem_of_getElem? (i := 13) rfl))), List.forall_mem_cons.mpr ⟨List.mem_cons_of_mem _ (List.mem_append_left _ (List.mem_append_left _ (List.mem_of_getElem? (i := 14) rfl))), List.forall_mem_cons.mpr ⟨List.mem_cons_of_mem _ (List.mem_append_left _ (List.mem_append_left _ (List.mem_of_getElem? (i := 15) rfl))), List.forall_mem_cons.mpr ⟨List.mem_cons_of_mem _ (List.mem_append_left _ (List.mem_append_left _ (List.mem_of_getElem? (i := 16) rfl))), List.forall_mem_cons.mpr ⟨List.mem_cons_of_mem _ (List.mem_append_left _ (List.mem_append_left _ (List.mem_of_getElem? (i := 17) rfl))), List.forall_mem_cons.mpr ⟨List.mem_cons_of_mem _ (List.mem_append_left _ (List.mem_append_left _ (List.mem_of_getElem? (i := 18) rfl))), List.forall_mem_cons.mpr ⟨List.mem_cons_of_mem _ (List.mem_append_left _ (List.mem_append_left _ (List.mem_of_getElem? (i := 19) rfl))), List.forall_mem_cons.mpr ⟨List.mem_cons_of_mem _ (List.mem_append_left _ (List.mem_append_left _ (List.mem_of_getElem? (i := 20) rfl))), List.forall_mem_cons.mpr ⟨List.mem_cons_of_mem _ (List.mem_append_left _ (List.mem_append_left _ (List.mem_of_getElem? (i := 21) rfl))), List.forall_mem_cons.mpr ⟨List.mem_cons_of_mem _ (List.mem_append_left _ (List.mem_append_left _ (List.mem_of_getElem? (i := 22) rfl))), List.forall_mem_cons.mpr ⟨List.mem_cons_of_mem _ (List.mem_append_left _ (List.mem_append_left _ (List.mem_of_getElem? (i := 23) rfl))), List.forall_mem_cons.mpr ⟨List.mem_cons_of_mem _ (List.mem_append_left _ (List.mem_append_right _ (List.mem_of_getElem? (i := 0) rfl))), List.forall_mem_cons.mpr ⟨List.mem_cons_of_mem _ (List.mem_append_left _ (List.mem_append_right _ (List.mem_of_getElem? (i := 1) rfl))), List.forall_mem_cons.mpr ⟨List.mem_cons_of_mem _ (List.mem_append_left _ (List.mem_append_right _ (List.mem_of_getElem? (i := 2) rfl))), List.forall_mem_cons.mpr ⟨List.mem_cons_of_mem _ (List.mem_append_left _ (List.mem_append_right _ (List.mem_of_getElem? (i := 3) rfl))), nowords_in⟩⟩⟩⟩⟩⟩⟩⟩⟩⟩⟩⟩⟩⟩⟩⟩⟩⟩⟩⟩⟩⟩⟩⟩, List.forall_mem_cons.mpr ⟨List.mem_cons_of_mem _ (List.mem_append_left _ (List.mem_append_right _ (List.mem_of_getElem? (i := 4) rfl))), List.forall_mem_cons.mpr ⟨List.mem_cons_of_mem _ (List.mem_append_left _ (List.mem_append_right _ (List.mem_of_getElem? (i := 5) rfl))), nowords_in⟩⟩⟩, (fun _ h => List.mem_cons_of_mem _ (List.mem_append_right _ (h)))⟩⟩)
set_option maxRecDepth 20000 in
theorem gX11_keptOf_X11_sayOf : GoodIn wsX11_keptOf (wsV RX11 316 RX11 yX11_sayOf wsX11_sayOf) := goodIn_app (goodIn_by gd_X11_keptOf (List.forall_mem_cons.mpr ⟨List.mem_cons_of_mem _ (List.mem_append_left _ (List.mem_append_left _ (List.mem_of_getElem? (i := 1) rfl))), List.forall_mem_cons.mpr ⟨List.mem_cons_of_mem _ (List.mem_append_left _ (List.mem_append_left _ (List.mem_of_getElem? (i := 2) rfl))), List.forall_mem_cons.mpr ⟨List.mem_cons_of_mem _ (List.mem_append_left _ (List.mem_append_left _ (List.mem_of_getElem? (i := 3) rfl))), List.forall_mem_cons.mpr ⟨List.mem_cons_of_mem _ (List.mem_append_left _ (List.mem_append_left _ (List.mem_of_getElem? (i := 4) rfl))), nowords_in⟩⟩⟩⟩)) ggX11_keptOf_X11_sayOf
set_option maxRecDepth 20000 in
theorem ggX11_keptOf_X11_isWet : GoodIn wsX11_keptOf wsX11_isWet := goodIn_by gd_X11_keptOf (List.forall_mem_cons.mpr ⟨List.mem_cons_of_mem _ (List.mem_append_left _ (List.mem_append_right _ (List.mem_of_getElem? (i := 9) rfl))), List.forall_mem_append.mpr ⟨List.forall_mem_cons.mpr ⟨List.mem_cons_of_mem _ (List.mem_append_left _ (List.mem_append_left _ (List.mem_of_getElem? (i := 0) rfl))), nowords_in⟩, (fun _ h => List.mem_cons_of_mem _ (List.mem_append_right _ (h)))⟩⟩)
set_option maxRecDepth 20000 in
theorem gX11_keptOf_X11_isWet : GoodIn wsX11_keptOf (wsV RX11 264 RX11 yX11_isWet wsX11_isWet) := goodIn_app (goodIn_by gd_X11_keptOf (List.forall_mem_cons.mpr ⟨List.mem_cons_of_mem _ (List.mem_append_left _ (List.mem_append_right _ (List.mem_of_getElem? (i := 6) rfl))), List.forall_mem_cons.mpr ⟨List.mem_cons_of_mem _ (List.mem_append_left _ (List.mem_append_right _ (List.mem_of_getElem? (i := 7) rfl))), List.forall_mem_cons.mpr ⟨List.mem_cons_of_mem _ (List.mem_append_left _ (List.mem_append_right _ (List.mem_of_getElem? (i := 8) rfl))), List.forall_mem_cons.mpr ⟨List.mem_cons_of_mem _ (List.mem_append_left _ (List.mem_append_left _ (List.mem_of_getElem? (i := 4) rfl))), nowords_in⟩⟩⟩⟩)) ggX11_keptOf_X11_isWet
theorem dX11_keptOf_0 : decode cX11_keptOf 0 = .ok (.iconst 0, 1) := by decide +kernel
theorem dX11_keptOf_1 : decode cX11_keptOf 1 = .ok (.istore_n 1, 1) := by decide +kernel
theorem dX11_keptOf_2 : decode cX11_keptOf 2 = .ok (.iconst 0, 1) := by decide +kernel
theorem dX11_keptOf_3 : decode cX11_keptOf 3 = .ok (.istore_n 2, 1) := by decide +kernel
theorem dX11_keptOf_4 : decode cX11_keptOf 4 = .ok (.iload_n 2, 1) := by decide +kernel
theorem dX11_keptOf_5 : decode cX11_keptOf 5 = .ok (.aload_n 0, 1) := by decide +kernel
theorem dX11_keptOf_6 : decode cX11_keptOf 6 = .ok (.getfield 7, 3) := by decide +kernel
theorem dX11_keptOf_9 : decode cX11_keptOf 9 = .ok (.iconst 1, 1) := by decide +kernel
theorem dX11_keptOf_10 : decode cX11_keptOf 10 = .ok (.iaload, 1) := by decide +kernel
theorem dX11_keptOf_11 : decode cX11_keptOf 11 = .ok (.if_icmp .ge 38, 3) := by decide +kernel
theorem dX11_keptOf_14 : decode cX11_keptOf 14 = .ok (.iload_n 1, 1) := by decide +kernel
theorem dX11_keptOf_15 : decode cX11_keptOf 15 = .ok (.aload_n 0, 1) := by decide +kernel
theorem dX11_keptOf_16 : decode cX11_keptOf 16 = .ok (.iload_n 2, 1) := by decide +kernel
theorem dX11_keptOf_17 : decode cX11_keptOf 17 = .ok (.invokevirtual 316, 3) := by decide +kernel
theorem dX11_keptOf_20 : decode cX11_keptOf 20 = .ok (.aload_n 0, 1) := by decide +kernel
theorem dX11_keptOf_21 : decode cX11_keptOf 21 = .ok (.iload_n 2, 1) := by decide +kernel
theorem dX11_keptOf_22 : decode cX11_keptOf 22 = .ok (.invokevirtual 264, 3) := by decide +kernel
theorem dX11_keptOf_25 : decode cX11_keptOf 25 = .ok (.ifCond .eq 7, 3) := by decide +kernel
theorem dX11_keptOf_28 : decode cX11_keptOf 28 = .ok (.iconst 1, 1) := by decide +kernel
theorem dX11_keptOf_29 : decode cX11_keptOf 29 = .ok (.goto 4, 3) := by decide +kernel
theorem dX11_keptOf_32 : decode cX11_keptOf 32 = .ok (.iconst 0, 1) := by decide +kernel
theorem dX11_keptOf_33 : decode cX11_keptOf 33 = .ok (.if_icmp .ne 7, 3) := by decide +kernel
theorem dX11_keptOf_36 : decode cX11_keptOf 36 = .ok (.iconst 1, 1) := by decide +kernel
theorem dX11_keptOf_37 : decode cX11_keptOf 37 = .ok (.goto 4, 3) := by decide +kernel
theorem dX11_keptOf_40 : decode cX11_keptOf 40 = .ok (.iconst 0, 1) := by decide +kernel
theorem dX11_keptOf_41 : decode cX11_keptOf 41 = .ok (.iadd, 1) := by decide +kernel
theorem dX11_keptOf_42 : decode cX11_keptOf 42 = .ok (.istore_n 1, 1) := by decide +kernel
theorem dX11_keptOf_43 : decode cX11_keptOf 43 = .ok (.iinc 2 1, 3) := by decide +kernel
theorem dX11_keptOf_46 : decode cX11_keptOf 46 = .ok (.goto (-42), 3) := by decide +kernel
theorem dX11_keptOf_49 : decode cX11_keptOf 49 = .ok (.iload_n 1, 1) := by decide +kernel
theorem dX11_keptOf_50 : decode cX11_keptOf 50 = .ok (.ireturn, 1) := by decide +kernel
abbrev rmX11_keptOf : Room := { frames := 4, cells := 0, slots := 0, locals := 92 }
set_option maxHeartbeats 4000000 in
set_option maxRecDepth 100000 in
theorem kX11_keptOf (l : Launch) (D : va_G) (cy : Nat → ClassId) (h0 : Nat) (a0 : Nat → Nat) (s0 : Rc) (res : Int32) (h : fX11_keptOf s0 = some res) : CI l D cy yX11_keptOf wsX11_keptOf rmX11_keptOf [.ref h0] (flat [WX11 cy h0 a0 s0]) (flat [WX11 cy h0 a0 s0]) res := by
  refine CI.of (cc := cX11_keptOf) (maxL := 3) (by decide) rfl (Nat.le_of_ble_eq_true rfl) ?_
  intro p e s m args below meth c A QQ ls E hr
  obtain ⟨hx, hb, hml, hown, hts, hK, hN, hP, hD, hA, hl⟩ := E
  have hret : ∀ (pc : Nat) (H : Heap) (locs : List Loc) (ls : Array Slot) (u : Int32), u = res → va_P D vwCl (flat [WX11 cy h0 a0 s0]) H → va_D A (flat [WX11 cy h0 a0 s0]) → va_S A s.heap H locs → decode cX11_keptOf pc = .ok (.ireturn, 1) → W p l e rmX11_keptOf s m args below meth c H locs 0 0 QQ (F0 m pc ls [.int u]) := by
    intro pc H locs ls u hu hP hD hS hd; subst hu; exact hr pc H locs ls _ rfl hP hD hS hd
  clear hr
  have hl : lv_has ls 3 [(0, .ref h0)] := hl
  have hinX11 : ∀ w ∈ wsX110, w ∈ wsX11_keptOf := fun _ h => List.mem_cons_of_mem _ (List.mem_append_right _ h)
  unfold fX11_keptOf at h
  suffices key : ∀ (H : Heap) (locs : List Loc), va_P D vwCl (flat [WX11 cy h0 a0 s0]) H → va_S A s.heap H locs → W p l e rmX11_keptOf s m args below meth c H locs 0 0 QQ (F0 m 0 ls []) from key _ _ hP va_S.rf
  clear hP
  intro H locs hP hS
  refine lv_iconst (v := 0) hx hb dX11_keptOf_0 (by decide) ?_
  refine lv_istore_n (lv' := [(1, .int (0 : Int32)), (0, .ref h0)]) hx hb dX11_keptOf_1 rfl hl (by decide) rfl (fun ls hl => ?_)
  refine lv_iconst (v := 0) hx hb dX11_keptOf_2 (by decide) ?_
  refine lv_istore_n (lv' := [(2, .int (0 : Int32)), (1, .int (0 : Int32)), (0, .ref h0)]) hx hb dX11_keptOf_3 rfl hl (by decide) rfl (fun ls hl => ?_)
  have L4 : ∀ (n : Nat) (q4 : Int32 × Int32) (o : Int32), loopO (fX11_keptOf_L4 s0) n q4 = some o → ∀ (H : Heap) (locs : List Loc) (ls : Array Slot), lv_has ls 3 [(0, .ref h0), (1, .int q4.1), (2, .int q4.2)] → va_P D vwCl (flat [WX11 cy h0 a0 s0]) H → va_D A (flat [WX11 cy h0 a0 s0]) → va_S A s.heap H locs → ∀ (kk49 : ∀ (H : Heap) (locs : List Loc) (ls : Array Slot), lv_has ls 3 [(1, .int o)] → va_P D vwCl (flat [WX11 cy h0 a0 s0]) H → va_D A (flat [WX11 cy h0 a0 s0]) → va_S A s.heap H locs → W p l e rmX11_keptOf s m args below meth c H locs 0 0 QQ (F0 m 49 ls [])), W p l e rmX11_keptOf s m args below meth c H locs 0 0 QQ (F0 m 4 ls []) := by
    intro n
    induction n with
    | zero => intro q4 o h; exact absurd h (by rw [loopO_zero]; intro z; cases z)
    | succ n ih =>
      intro q4 o h H locs ls hl hP hD hS kk49
      obtain ⟨w, h, hgo, hst⟩ := loopO_elim h
      unfold fX11_keptOf_L4 at h
      have J33 : ∀ (z33_0 : Int32) (z33_1 : Int32) (z33_2 : Int32) (H : Heap) (locs : List Loc) (ls : Array Slot), lv_has ls 3 [(0, .ref h0), (2, .int q4.2)] → va_P D vwCl (flat [WX11 cy h0 a0 s0]) H → va_D A (flat [WX11 cy h0 a0 s0]) → va_S A s.heap H locs → fX11_keptOf_J33 q4 z33_0 z33_1 z33_2 = some w → W p l e rmX11_keptOf s m args below meth c H locs 0 0 QQ (F0 m 33 ls [.int z33_0, .int z33_1, .int z33_2]) := by
        intro z33_0 z33_1 z33_2 H locs ls hl hP hD hS h
        unfold fX11_keptOf_J33 at h
        refine lv_icmp_ne (tgt := 40) hx hb dX11_keptOf_33 (by decide) (fun c1 => ?_) (fun c1 => ?_)
        · replace h := (if_neg c1).symm.trans h
          refine lv_iconst (v := 0) hx hb dX11_keptOf_40 (by decide) ?_
          refine lv_iadd hx hb dX11_keptOf_41 ?_
          refine lv_topi (fun x2 ex2 => ?_)
          replace h := lt_use h x2 ex2
          refine lv_istore_n (lv' := [(1, .int x2), (0, .ref h0), (2, .int q4.2)]) hx hb dX11_keptOf_42 rfl hl (by decide) rfl (fun ls hl => ?_)
          refine lv_iinc (v := (q4.2 + (1 : Int32))) (lv' := [(2, .int (q4.2 + (1 : Int32))), (1, .int x2), (0, .ref h0)]) hx hb dX11_keptOf_43 hl (k := 2) rfl rfl (by decide) rfl (fun ls hl => ?_)
          refine lv_goto (tgt := 4) hx hb dX11_keptOf_46 (by decide) ?_
          exact ih _ o (hgo _ (Option.some.inj h).symm) H locs ls (lv_sub hl [2, 1, 0] rfl) hP hD hS kk49
        · replace h := (if_pos c1).symm.trans h
          refine lv_iconst (v := 1) hx hb dX11_keptOf_36 (by decide) ?_
          refine lv_goto (tgt := 41) hx hb dX11_keptOf_37 (by decide) ?_
          refine lv_iadd hx hb dX11_keptOf_41 ?_
          refine lv_topi (fun x3 ex3 => ?_)
          replace h := lt_use h x3 ex3
          refine lv_istore_n (lv' := [(1, .int x3), (0, .ref h0), (2, .int q4.2)]) hx hb dX11_keptOf_42 rfl hl (by decide) rfl (fun ls hl => ?_)
          refine lv_iinc (v := (q4.2 + (1 : Int32))) (lv' := [(2, .int (q4.2 + (1 : Int32))), (1, .int x3), (0, .ref h0)]) hx hb dX11_keptOf_43 hl (k := 2) rfl rfl (by decide) rfl (fun ls hl => ?_)
          refine lv_goto (tgt := 4) hx hb dX11_keptOf_46 (by decide) ?_
          exact ih _ o (hgo _ (Option.some.inj h).symm) H locs ls (lv_sub hl [2, 1, 0] rfl) hP hD hS kk49
      refine lv_iload_n hx hb dX11_keptOf_4 rfl (lv_at hl 2 rfl) ?_
      refine lv_aload_n hx hb dX11_keptOf_5 rfl (lv_at hl 0 rfl) ?_
      refine va_get (D := D) (ci := 11) (v := .ref (a0 0)) (C := RX11) (T := TX11) (N := 38) hx hb hts hinX11 hown hK hP 0 rfl rfl 0 (by decide) (hts (.fieldLink RX11 7 "KneeBenchModel" "at" "[I") (List.mem_of_getElem? (i := 1) rfl)) (fun _ h9 => h9) rfl dX11_keptOf_6 ?_
      refine lv_iconst (v := 1) hx hb dX11_keptOf_9 (by decide) ?_
      refine va_iald hx hb hK hP 1 1 rfl rfl (inb_in (by decide)) dX11_keptOf_10 ?_
      refine lv_icmp_ge (tgt := 49) hx hb dX11_keptOf_11 (by decide) (fun c4 => ?_) (fun c4 => ?_)
      · replace h := (if_pos c4).symm.trans h
        have eo := hst _ (Option.some.inj h).symm
        subst eo
        exact kk49 H locs ls (lv_sub hl [1] rfl) hP hD hS
      · replace h := (if_neg c4).symm.trans h
        refine lv_iload_n hx hb dX11_keptOf_14 rfl (lv_at hl 1 rfl) ?_
        refine lv_aload_n hx hb dX11_keptOf_15 rfl (lv_at hl 0 rfl) ?_
        refine lv_iload_n hx hb dX11_keptOf_16 rfl (lv_at hl 2 rfl) ?_
        obtain ⟨r5, hr5, h⟩ := bd_elim h
        refine ca_i (w' := [WX11 cy h0 a0 s0]) (rn_V (As := [.int q4.2]) (rest := [.int q4.1]) ⟨hx, hb, hml, hown, hts⟩ (kX11_sayOf l D cy h0 a0 s0 q4.2 r5 hr5 H.size) (cwV 1 hts gX11_keptOf_X11_sayOf rfl rfl rfl (by decide +kernel) ⟨Nat.le_of_ble_eq_true rfl, Nat.le_of_ble_eq_true rfl⟩) hK hN hP hD [0] rfl rfl (ci := 11) (q0 := 0) rfl rfl rfl rfl hl.1 rfl (Nat.le_of_ble_eq_true rfl) dX11_keptOf_17 ⟨Nat.le_refl 0, Nat.le_refl 0⟩) hP hD hS hA [0] ⟨rfl, rfl, rfl, rfl⟩ (fun H locs hP hD hS => ?_)
        refine lv_aload_n hx hb dX11_keptOf_20 rfl (lv_at hl 0 rfl) ?_
        refine lv_iload_n hx hb dX11_keptOf_21 rfl (lv_at hl 2 rfl) ?_
        obtain ⟨r6, hr6, h⟩ := bd_elim h
        refine ca_z (w' := [WX11 cy h0 a0 s0]) (rn_V (As := [.int q4.2]) (rest := [.int r5, .int q4.1]) ⟨hx, hb, hml, hown, hts⟩ (kX11_isWet l D cy h0 a0 s0 q4.2 r6 hr6 H.size) (cwV 1 hts gX11_keptOf_X11_isWet rfl rfl rfl (by decide +kernel) ⟨Nat.le_of_ble_eq_true rfl, Nat.le_of_ble_eq_true rfl⟩) hK hN hP hD [0] rfl rfl (ci := 11) (q0 := 0) rfl rfl rfl rfl hl.1 rfl (Nat.le_of_ble_eq_true rfl) dX11_keptOf_22 ⟨Nat.le_refl 0, Nat.le_refl 0⟩) hP hD hS hA [0] ⟨rfl, rfl, rfl, rfl⟩ (fun b7 H locs hP hD hS => ?_)
        refine lv_if_eq (tgt := 32) hx hb dX11_keptOf_25 (by decide) (fun c8 => ?_) (fun c8 => ?_)
        · replace h := (if_pos c8).symm.trans h
          refine lv_iconst (v := 0) hx hb dX11_keptOf_32 (by decide) ?_
          exact J33 (0 : Int32) r5 q4.1 H locs ls (lv_sub hl [0, 2] rfl) hP hD hS h
        · replace h := (if_neg c8).symm.trans h
          refine lv_iconst (v := 1) hx hb dX11_keptOf_28 (by decide) ?_
          refine lv_goto (tgt := 33) hx hb dX11_keptOf_29 (by decide) ?_
          exact J33 (1 : Int32) r5 q4.1 H locs ls (lv_sub hl [0, 2] rfl) hP hD hS h
  obtain ⟨o4, ho4, h⟩ := bd_elim h
  obtain ⟨n4, hn4⟩ := loopF_some ho4
  refine L4 n4 _ o4 hn4 H locs ls (lv_sub hl [2, 1, 0] rfl) hP hD hS (fun H locs ls hl hP hD hS => ?_)
  refine lv_iload_n hx hb dX11_keptOf_49 rfl (lv_at hl 0 rfl) ?_
  exact hret 50 H locs ls o4 (Option.some.inj h) hP hD hS dX11_keptOf_50
theorem gd_X11_keptWith : wsX11_keptWith.all goodWord = true := by decide +kernel
set_option maxRecDepth 20000 in
theorem ggX11_keptWith_X11_keptOf : GoodIn wsX11_keptWith wsX11_keptOf := goodIn_by gd_X11_keptWith (List.forall_mem_cons.mpr ⟨List.mem_cons_of_mem _ (List.mem_append_left _ (List.mem_append_left _ (List.mem_of_getElem? (i := 5) rfl))), List.forall_mem_append.mpr ⟨List.forall_mem_append.mpr ⟨List.forall_mem_cons.mpr ⟨List.mem_cons_of_mem _ (List.mem_append_left _ (List.mem_append_left _ (List.mem_of_getElem? (i := 0) rfl))), List.forall_mem_cons.mpr ⟨List.mem_cons_of_mem _ (List.mem_append_left _ (List.mem_append_left _ (List.mem_of_getElem? (i := 6) rfl))), List.forall_mem_cons.mpr ⟨List.mem_cons_of_mem _ (List.mem_append_left _ (List.mem_append_left _ (List.mem_of_getElem? (i := 7) rfl))), List.forall_mem_cons.mpr ⟨List.mem_cons_of_mem _ (List.mem_append_left _ (List.mem_append_left _ (List.mem_of_getElem? (i := 8) rfl))), List.forall_mem_cons.mpr ⟨List.mem_cons_of_mem _ (List.mem_append_left _ (List.mem_append_left _ (List.mem_of_getElem? (i := 4) rfl))), List.forall_mem_cons.mpr ⟨List.mem_cons_of_mem _ (List.mem_append_left _ (List.mem_append_left _ (List.mem_of_getElem? (i := 9) rfl))), List.forall_mem_cons.mpr ⟨List.mem_cons_of_mem _ (List.mem_append_left _ (List.mem_append_left _ (List.mem_of_getElem? (i := 10) rfl))), List.forall_mem_cons.mpr ⟨List.mem_cons_of_mem _ (List.mem_append_left _ (List.mem_append_left _ (List.mem_of_getElem? (i := 11) rfl))), List.forall_mem_cons.mpr ⟨List.mem_cons_of_mem _ (List.mem_append_left _ (List.mem_append_left _ (List.mem_of_getElem? (i := 12) rfl))), List.forall_mem_cons.mpr ⟨List.mem_cons_of_mem _ (List.mem_append_left _ (List.mem_append_left _ (List.mem_of_getElem? (i := 13) rfl))), List.forall_mem_cons.mpr ⟨List.mem_cons_of_mem _ (List.mem_append_left _ (List.mem_append_left _ (List.mem_of_getElem? (i := 14) rfl))), List.forall_mem_cons.mpr ⟨List.mem_cons_of_mem _ (List.mem_append_left _ (List.mem_append_left _ (List.mem_of_getElem? (i := 15) rfl))), List.forall_mem_cons.mpr ⟨List.mem_cons_of_mem _ (List.mem_append_left _ (List.mem_append_left _ (List.mem_of_getElem? (i := 16) rfl))), List.forall_mem_cons.mpr ⟨List.mem_cons_of_mem _ (List.mem_append_left _ (List.mem_append_left _ (List.mem_of_getElem? (i := 17) rfl))), List.forall_mem_cons.mpr ⟨List.mem_cons_of_mem _ (List.mem_append_left _ (List.mem_append_left _ (List.mem_of_getElem? (i := 18) rfl))), List.forall_mem_cons.mpr ⟨List.mem_cons_of_mem _ (List.mem_append_left _ (List.mem_append_left _ (List.mem_of_getElem? (i := 19) rfl))), List.forall_mem_cons.mpr ⟨List.mem_cons_of_mem _ (List.mem_append_left _ (List.mem_append_left _ (List.mem_of_getElem? (i := 20) rfl))), List.forall_mem_cons.mpr ⟨List.mem_cons_of_mem _ (List.mem_append_left _ (List.mem_append_left _ (List.mem_of_getElem? (i := 21) rfl))), List.forall_mem_cons.mpr ⟨List.mem_cons_of_mem _ (List.mem_append_left _ (List.mem_append_left _ (List.mem_of_getElem? (i := 22) rfl))), List.forall_mem_cons.mpr ⟨List.mem_cons_of_mem _ (List.mem_append_left _ (List.mem_append_left _ (List.mem_of_getElem? (i := 23) rfl))), List.forall_mem_cons.mpr ⟨List.mem_cons_of_mem _ (List.mem_append_left _ (List.mem_append_right _ (List.mem_of_getElem? (i := 0) rfl))), List.forall_mem_cons.mpr ⟨List.mem_cons_of_mem _ (List.mem_append_left _ (List.mem_append_right _ (List.mem_of_getElem? (i := 1) rfl))), List.forall_mem_cons.mpr ⟨List.mem_cons_of_mem _ (List.mem_append_left _ (List.mem_append_right _ (List.mem_of_getElem? (i := 2) rfl))), List.forall_mem_cons.mpr ⟨List.mem_cons_of_mem _ (List.mem_append_left _ (List.mem_append_right _ (List.mem_of_getElem? (i := 3) rfl))), nowords_in⟩⟩⟩⟩⟩⟩⟩⟩⟩⟩⟩⟩⟩⟩⟩⟩⟩⟩⟩⟩⟩⟩⟩⟩, List.forall_mem_cons.mpr ⟨List.mem_cons_of_mem _ (List.mem_append_left _ (List.mem_append_right _ (List.mem_of_getElem? (i := 4) rfl))), List.forall_mem_cons.mpr ⟨List.mem_cons_of_mem _ (List.mem_append_left _ (List.mem_append_right _ (List.mem_of_getElem? (i := 5) rfl))), List.forall_mem_cons.mpr ⟨List.mem_cons_of_mem _ (List.mem_append_left _ (List.mem_append_right _ (List.mem_of_getElem? (i := 6) rfl))), List.forall_mem_cons.mpr ⟨List.mem_cons_of_mem _ (List.mem_append_left _ (List.mem_append_right _ (List.mem_of_getElem? (i := 7) rfl))), List.forall_mem_cons.mpr ⟨List.mem_cons_of_mem _ (List.mem_append_left _ (List.mem_append_right _ (List.mem_of_getElem? (i := 8) rfl))), List.forall_mem_cons.mpr ⟨List.mem_cons_of_mem _ (List.mem_append_left _ (List.mem_append_right _ (List.mem_of_getElem? (i := 9) rfl))), List.forall_mem_cons.mpr ⟨List.mem_cons_of_mem _ (List.mem_append_left _ (List.mem_append_right _ (List.mem_of_getElem? (i := 10) rfl))), List.forall_mem_cons.mpr ⟨List.mem_cons_of_mem _ (List.mem_append_left _ (List.mem_append_right _ (List.mem_of_getElem? (i := 11) rfl))), List.forall_mem_cons.mpr ⟨List.mem_cons_of_mem _ (List.mem_append_left _ (List.mem_append_right _ (List.mem_of_getElem? (i := 12) rfl))), List.forall_mem_cons.mpr ⟨List.mem_cons_of_mem _ (List.mem_append_left _ (List.mem_append_right _ (List.mem_of_getElem? (i := 13) rfl))), nowords_in⟩⟩⟩⟩⟩⟩⟩⟩⟩⟩⟩, (fun _ h => List.mem_cons_of_mem _ (List.mem_append_right _ (h)))⟩⟩)
set_option maxRecDepth 20000 in
theorem gX11_keptWith_X11_keptOf : GoodIn wsX11_keptWith (wsV RX11 338 RX11 yX11_keptOf wsX11_keptOf) := goodIn_app (goodIn_by gd_X11_keptWith (List.forall_mem_cons.mpr ⟨List.mem_cons_of_mem _ (List.mem_append_left _ (List.mem_append_left _ (List.mem_of_getElem? (i := 1) rfl))), List.forall_mem_cons.mpr ⟨List.mem_cons_of_mem _ (List.mem_append_left _ (List.mem_append_left _ (List.mem_of_getElem? (i := 2) rfl))), List.forall_mem_cons.mpr ⟨List.mem_cons_of_mem _ (List.mem_append_left _ (List.mem_append_left _ (List.mem_of_getElem? (i := 3) rfl))), List.forall_mem_cons.mpr ⟨List.mem_cons_of_mem _ (List.mem_append_left _ (List.mem_append_left _ (List.mem_of_getElem? (i := 4) rfl))), nowords_in⟩⟩⟩⟩)) ggX11_keptWith_X11_keptOf
theorem dX11_keptWith_0 : decode cX11_keptWith 0 = .ok (.aload_n 0, 1) := by decide +kernel
theorem dX11_keptWith_1 : decode cX11_keptWith 1 = .ok (.getfield 7, 3) := by decide +kernel
theorem dX11_keptWith_4 : decode cX11_keptWith 4 = .ok (.iconst 2, 1) := by decide +kernel
theorem dX11_keptWith_5 : decode cX11_keptWith 5 = .ok (.iaload, 1) := by decide +kernel
theorem dX11_keptWith_6 : decode cX11_keptWith 6 = .ok (.istore_n 2, 1) := by decide +kernel
theorem dX11_keptWith_7 : decode cX11_keptWith 7 = .ok (.aload_n 0, 1) := by decide +kernel
theorem dX11_keptWith_8 : decode cX11_keptWith 8 = .ok (.getfield 7, 3) := by decide +kernel
theorem dX11_keptWith_11 : decode cX11_keptWith 11 = .ok (.iconst 2, 1) := by decide +kernel
theorem dX11_keptWith_12 : decode cX11_keptWith 12 = .ok (.iload_n 1, 1) := by decide +kernel
theorem dX11_keptWith_13 : decode cX11_keptWith 13 = .ok (.iastore, 1) := by decide +kernel
theorem dX11_keptWith_14 : decode cX11_keptWith 14 = .ok (.aload_n 0, 1) := by decide +kernel
theorem dX11_keptWith_15 : decode cX11_keptWith 15 = .ok (.invokevirtual 338, 3) := by decide +kernel
theorem dX11_keptWith_18 : decode cX11_keptWith 18 = .ok (.istore_n 3, 1) := by decide +kernel
theorem dX11_keptWith_19 : decode cX11_keptWith 19 = .ok (.aload_n 0, 1) := by decide +kernel
theorem dX11_keptWith_20 : decode cX11_keptWith 20 = .ok (.getfield 7, 3) := by decide +kernel
theorem dX11_keptWith_23 : decode cX11_keptWith 23 = .ok (.iconst 2, 1) := by decide +kernel
theorem dX11_keptWith_24 : decode cX11_keptWith 24 = .ok (.iload_n 2, 1) := by decide +kernel
theorem dX11_keptWith_25 : decode cX11_keptWith 25 = .ok (.iastore, 1) := by decide +kernel
theorem dX11_keptWith_26 : decode cX11_keptWith 26 = .ok (.iload_n 3, 1) := by decide +kernel
theorem dX11_keptWith_27 : decode cX11_keptWith 27 = .ok (.ireturn, 1) := by decide +kernel
abbrev rmX11_keptWith : Room := { frames := 5, cells := 0, slots := 0, locals := 114 }
set_option maxHeartbeats 4000000 in
set_option maxRecDepth 100000 in
theorem kX11_keptWith (l : Launch) (D : va_G) (cy : Nat → ClassId) (h0 : Nat) (a0 : Nat → Nat) (s0 : Rc) (p1 : Int32) (res : Int32 × Rc) (h : fX11_keptWith p1 s0 = some res) : CI l D cy yX11_keptWith wsX11_keptWith rmX11_keptWith [.ref h0, .int p1] (flat [WX11 cy h0 a0 s0]) (flat [WX11 cy h0 a0 res.2]) res.1 := by
  refine CI.of (cc := cX11_keptWith) (maxL := 4) (by decide) rfl (Nat.le_of_ble_eq_true rfl) ?_
  intro p e s m args below meth c A QQ ls E hr
  obtain ⟨hx, hb, hml, hown, hts, hK, hN, hP, hD, hA, hl⟩ := E
  have hret : ∀ (pc : Nat) (H : Heap) (locs : List Loc) (ls : Array Slot) (u : Int32 × Rc), u = res → va_P D vwCl (flat [WX11 cy h0 a0 u.2]) H → va_D A (flat [WX11 cy h0 a0 u.2]) → va_S A s.heap H locs → decode cX11_keptWith pc = .ok (.ireturn, 1) → W p l e rmX11_keptWith s m args below meth c H locs 0 0 QQ (F0 m pc ls [.int u.1]) := by
    intro pc H locs ls u hu hP hD hS hd; subst hu; exact hr pc H locs ls _ rfl hP hD hS hd
  clear hr
  have hl : lv_has ls 4 [(0, .ref h0), (1, .int p1)] := hl
  have hinX11 : ∀ w ∈ wsX110, w ∈ wsX11_keptWith := fun _ h => List.mem_cons_of_mem _ (List.mem_append_right _ h)
  unfold fX11_keptWith at h
  suffices key : ∀ (H : Heap) (locs : List Loc), va_P D vwCl (flat [WX11 cy h0 a0 s0]) H → va_S A s.heap H locs → W p l e rmX11_keptWith s m args below meth c H locs 0 0 QQ (F0 m 0 ls []) from key _ _ hP va_S.rf
  clear hP
  intro H locs hP hS
  refine lv_aload_n hx hb dX11_keptWith_0 rfl (lv_at hl 0 rfl) ?_
  refine va_get (D := D) (ci := 11) (v := .ref (a0 0)) (C := RX11) (T := TX11) (N := 38) hx hb hts hinX11 hown hK hP 0 rfl rfl 0 (by decide) (hts (.fieldLink RX11 7 "KneeBenchModel" "at" "[I") (List.mem_of_getElem? (i := 1) rfl)) (fun _ h9 => h9) rfl dX11_keptWith_1 ?_
  refine lv_iconst (v := 2) hx hb dX11_keptWith_4 (by decide) ?_
  refine va_iald hx hb hK hP 1 1 rfl rfl (inb_in (by decide)) dX11_keptWith_5 ?_
  refine lv_topi (fun x1 ex1 => ?_)
  replace h := lt_use h x1 ex1
  refine lv_istore_n (lv' := [(2, .int x1), (0, .ref h0), (1, .int p1)]) hx hb dX11_keptWith_6 rfl hl (by decide) rfl (fun ls hl => ?_)
  refine lv_aload_n hx hb dX11_keptWith_7 rfl (lv_at hl 1 rfl) ?_
  refine va_get (D := D) (ci := 11) (v := .ref (a0 0)) (C := RX11) (T := TX11) (N := 38) hx hb hts hinX11 hown hK hP 0 rfl rfl 0 (by decide) (hts (.fieldLink RX11 7 "KneeBenchModel" "at" "[I") (List.mem_of_getElem? (i := 1) rfl)) (fun _ h9 => h9) rfl dX11_keptWith_8 ?_
  refine lv_iconst (v := 2) hx hb dX11_keptWith_11 (by decide) ?_
  refine lv_iload_n hx hb dX11_keptWith_12 rfl (lv_at hl 2 rfl) ?_
  obtain ⟨s0_2, es, h⟩ := lt_elim h
  refine va_iast hx hb hK hP hD hS 1 1 rfl rfl (inb_in (by decide)) dX11_keptWith_13 (fun H locs hP hD hS => ?_)
  have hP : va_P D vwCl (flat [WX11 cy h0 a0 s0_2]) H := by rw [es]; exact hP
  have hD : va_D A (flat [WX11 cy h0 a0 s0_2]) := by rw [es]; exact hD
  clear es
  refine lv_aload_n hx hb dX11_keptWith_14 rfl (lv_at hl 1 rfl) ?_
  obtain ⟨r3, hr3, h⟩ := bd_elim h
  refine ca_i (w' := [WX11 cy h0 a0 s0_2]) (rn_V (As := []) (rest := []) ⟨hx, hb, hml, hown, hts⟩ (kX11_keptOf l D cy h0 a0 s0_2 r3 hr3 H.size) (cwV 0 hts gX11_keptWith_X11_keptOf rfl rfl rfl (by decide +kernel) ⟨Nat.le_of_ble_eq_true rfl, Nat.le_of_ble_eq_true rfl⟩) hK hN hP hD [0] rfl rfl (ci := 11) (q0 := 0) rfl rfl rfl rfl hl.1 rfl (Nat.le_of_ble_eq_true rfl) dX11_keptWith_15 ⟨Nat.le_refl 0, Nat.le_refl 0⟩) hP hD hS hA [0] ⟨rfl, rfl, rfl, rfl⟩ (fun H locs hP hD hS => ?_)
  refine lv_istore_n (lv' := [(3, .int r3), (2, .int x1), (0, .ref h0), (1, .int p1)]) hx hb dX11_keptWith_18 rfl hl (by decide) rfl (fun ls hl => ?_)
  refine lv_aload_n hx hb dX11_keptWith_19 rfl (lv_at hl 2 rfl) ?_
  refine va_get (D := D) (ci := 11) (v := .ref (a0 0)) (C := RX11) (T := TX11) (N := 38) hx hb hts hinX11 hown hK hP 0 rfl rfl 0 (by decide) (hts (.fieldLink RX11 7 "KneeBenchModel" "at" "[I") (List.mem_of_getElem? (i := 1) rfl)) (fun _ h9 => h9) rfl dX11_keptWith_20 ?_
  refine lv_iconst (v := 2) hx hb dX11_keptWith_23 (by decide) ?_
  refine lv_iload_n hx hb dX11_keptWith_24 rfl (lv_at hl 1 rfl) ?_
  obtain ⟨s0_4, es, h⟩ := lt_elim h
  refine va_iast hx hb hK hP hD hS 1 1 rfl rfl (inb_in (by decide)) dX11_keptWith_25 (fun H locs hP hD hS => ?_)
  have hP : va_P D vwCl (flat [WX11 cy h0 a0 s0_4]) H := by rw [es]; exact hP
  have hD : va_D A (flat [WX11 cy h0 a0 s0_4]) := by rw [es]; exact hD
  clear es
  refine lv_iload_n hx hb dX11_keptWith_26 rfl (lv_at hl 0 rfl) ?_
  exact hret 27 H locs ls (r3, s0_4) (Option.some.inj h) hP hD hS dX11_keptWith_27
theorem gd_X11_bestLaw : wsX11_bestLaw.all goodWord = true := by decide +kernel
set_option maxRecDepth 20000 in
theorem ggX11_bestLaw_X11_keptWith : GoodIn wsX11_bestLaw wsX11_keptWith := goodIn_by gd_X11_bestLaw (List.forall_mem_cons.mpr ⟨List.mem_cons_of_mem _ (List.mem_append_left _ (List.mem_append_left _ (List.mem_of_getElem? (i := 4) rfl))), List.forall_mem_append.mpr ⟨List.forall_mem_append.mpr ⟨List.forall_mem_cons.mpr ⟨List.mem_cons_of_mem _ (List.mem_append_left _ (List.mem_append_left _ (List.mem_of_getElem? (i := 5) rfl))), List.forall_mem_cons.mpr ⟨List.mem_cons_of_mem _ (List.mem_append_left _ (List.mem_append_left _ (List.mem_of_getElem? (i := 6) rfl))), List.forall_mem_cons.mpr ⟨List.mem_cons_of_mem _ (List.mem_append_left _ (List.mem_append_left _ (List.mem_of_getElem? (i := 7) rfl))), List.forall_mem_cons.mpr ⟨List.mem_cons_of_mem _ (List.mem_append_left _ (List.mem_append_left _ (List.mem_of_getElem? (i := 8) rfl))), List.forall_mem_cons.mpr ⟨List.mem_cons_of_mem _ (List.mem_append_left _ (List.mem_append_left _ (List.mem_of_getElem? (i := 3) rfl))), List.forall_mem_cons.mpr ⟨List.mem_cons_of_mem _ (List.mem_append_left _ (List.mem_append_left _ (List.mem_of_getElem? (i := 9) rfl))), List.forall_mem_cons.mpr ⟨List.mem_cons_of_mem _ (List.mem_append_left _ (List.mem_append_left _ (List.mem_of_getElem? (i := 10) rfl))), List.forall_mem_cons.mpr ⟨List.mem_cons_of_mem _ (List.mem_append_left _ (List.mem_append_left _ (List.mem_of_getElem? (i := 11) rfl))), List.forall_mem_cons.mpr ⟨List.mem_cons_of_mem _ (List.mem_append_left _ (List.mem_append_left _ (List.mem_of_getElem? (i := 12) rfl))), List.forall_mem_cons.mpr ⟨List.mem_cons_of_mem _ (List.mem_append_left _ (List.mem_append_left _ (List.mem_of_getElem? (i := 13) rfl))), List.forall_mem_cons.mpr ⟨List.mem_cons_of_mem _ (List.mem_append_left _ (List.mem_append_left _ (List.mem_of_getElem? (i := 14) rfl))), List.forall_mem_cons.mpr ⟨List.mem_cons_of_mem _ (List.mem_append_left _ (List.mem_append_left _ (List.mem_of_getElem? (i := 15) rfl))), List.forall_mem_cons.mpr ⟨List.mem_cons_of_mem _ (List.mem_append_left _ (List.mem_append_left _ (List.mem_of_getElem? (i := 16) rfl))), List.forall_mem_cons.mpr ⟨List.mem_cons_of_mem _ (List.mem_append_left _ (List.mem_append_left _ (List.mem_of_getElem? (i := 17) rfl))), List.forall_mem_cons.mpr ⟨List.mem_cons_of_mem _ (List.mem_append_left _ (List.mem_append_left _ (List.mem_of_getElem? (i := 18) rfl))), List.forall_mem_cons.mpr ⟨List.mem_cons_of_mem _ (List.mem_append_left _ (List.mem_append_left _ (List.mem_of_getElem? (i := 19) rfl))), List.forall_mem_cons.mpr ⟨List.mem_cons_of_mem _ (List.mem_append_left _ (List.mem_append_left _ (List.mem_of_getElem? (i := 20) rfl))), List.forall_mem_cons.mpr ⟨List.mem_cons_of_mem _ (List.mem_append_left _ (List.mem_append_left _ (List.mem_of_getElem? (i := 21) rfl))), List.forall_mem_cons.mpr ⟨List.mem_cons_of_mem _ (List.mem_append_left _ (List.mem_append_left _ (List.mem_of_getElem? (i := 22) rfl))), List.forall_mem_cons.mpr ⟨List.mem_cons_of_mem _ (List.mem_append_left _ (List.mem_append_left _ (List.mem_of_getElem? (i := 23) rfl))), List.forall_mem_cons.mpr ⟨List.mem_cons_of_mem _ (List.mem_append_left _ (List.mem_append_right _ (List.mem_of_getElem? (i := 0) rfl))), List.forall_mem_cons.mpr ⟨List.mem_cons_of_mem _ (List.mem_append_left _ (List.mem_append_right _ (List.mem_of_getElem? (i := 1) rfl))), List.forall_mem_cons.mpr ⟨List.mem_cons_of_mem _ (List.mem_append_left _ (List.mem_append_right _ (List.mem_of_getElem? (i := 2) rfl))), List.forall_mem_cons.mpr ⟨List.mem_cons_of_mem _ (List.mem_append_left _ (List.mem_append_right _ (List.mem_of_getElem? (i := 3) rfl))), nowords_in⟩⟩⟩⟩⟩⟩⟩⟩⟩⟩⟩⟩⟩⟩⟩⟩⟩⟩⟩⟩⟩⟩⟩⟩, List.forall_mem_cons.mpr ⟨List.mem_cons_of_mem _ (List.mem_append_left _ (List.mem_append_right _ (List.mem_of_getElem? (i := 4) rfl))), List.forall_mem_cons.mpr ⟨List.mem_cons_of_mem _ (List.mem_append_left _ (List.mem_append_right _ (List.mem_of_getElem? (i := 5) rfl))), List.forall_mem_cons.mpr ⟨List.mem_cons_of_mem _ (List.mem_append_left _ (List.mem_append_right _ (List.mem_of_getElem? (i := 6) rfl))), List.forall_mem_cons.mpr ⟨List.mem_cons_of_mem _ (List.mem_append_left _ (List.mem_append_right _ (List.mem_of_getElem? (i := 7) rfl))), List.forall_mem_cons.mpr ⟨List.mem_cons_of_mem _ (List.mem_append_left _ (List.mem_append_right _ (List.mem_of_getElem? (i := 8) rfl))), List.forall_mem_cons.mpr ⟨List.mem_cons_of_mem _ (List.mem_append_left _ (List.mem_append_right _ (List.mem_of_getElem? (i := 9) rfl))), List.forall_mem_cons.mpr ⟨List.mem_cons_of_mem _ (List.mem_append_left _ (List.mem_append_right _ (List.mem_of_getElem? (i := 10) rfl))), List.forall_mem_cons.mpr ⟨List.mem_cons_of_mem _ (List.mem_append_left _ (List.mem_append_right _ (List.mem_of_getElem? (i := 11) rfl))), List.forall_mem_cons.mpr ⟨List.mem_cons_of_mem _ (List.mem_append_left _ (List.mem_append_right _ (List.mem_of_getElem? (i := 12) rfl))), List.forall_mem_cons.mpr ⟨List.mem_cons_of_mem _ (List.mem_append_left _ (List.mem_append_right _ (List.mem_of_getElem? (i := 13) rfl))), List.forall_mem_cons.mpr ⟨List.mem_cons_of_mem _ (List.mem_append_left _ (List.mem_append_right _ (List.mem_of_getElem? (i := 14) rfl))), List.forall_mem_cons.mpr ⟨List.mem_cons_of_mem _ (List.mem_append_left _ (List.mem_append_right _ (List.mem_of_getElem? (i := 15) rfl))), List.forall_mem_cons.mpr ⟨List.mem_cons_of_mem _ (List.mem_append_left _ (List.mem_append_right _ (List.mem_of_getElem? (i := 16) rfl))), List.forall_mem_cons.mpr ⟨List.mem_cons_of_mem _ (List.mem_append_left _ (List.mem_append_right _ (List.mem_of_getElem? (i := 17) rfl))), nowords_in⟩⟩⟩⟩⟩⟩⟩⟩⟩⟩⟩⟩⟩⟩⟩, (fun _ h => List.mem_cons_of_mem _ (List.mem_append_right _ (h)))⟩⟩)
set_option maxRecDepth 20000 in
theorem gX11_bestLaw_X11_keptWith : GoodIn wsX11_bestLaw (wsV RX11 354 RX11 yX11_keptWith wsX11_keptWith) := goodIn_app (goodIn_by gd_X11_bestLaw (List.forall_mem_cons.mpr ⟨List.mem_cons_of_mem _ (List.mem_append_left _ (List.mem_append_left _ (List.mem_of_getElem? (i := 0) rfl))), List.forall_mem_cons.mpr ⟨List.mem_cons_of_mem _ (List.mem_append_left _ (List.mem_append_left _ (List.mem_of_getElem? (i := 1) rfl))), List.forall_mem_cons.mpr ⟨List.mem_cons_of_mem _ (List.mem_append_left _ (List.mem_append_left _ (List.mem_of_getElem? (i := 2) rfl))), List.forall_mem_cons.mpr ⟨List.mem_cons_of_mem _ (List.mem_append_left _ (List.mem_append_left _ (List.mem_of_getElem? (i := 3) rfl))), nowords_in⟩⟩⟩⟩)) ggX11_bestLaw_X11_keptWith
set_option maxRecDepth 20000 in
theorem ggX11_bestLaw_X11_gives : GoodIn wsX11_bestLaw wsX11_gives := goodIn_by gd_X11_bestLaw (List.forall_mem_cons.mpr ⟨List.mem_cons_of_mem _ (List.mem_append_left _ (List.mem_append_right _ (List.mem_of_getElem? (i := 21) rfl))), List.forall_mem_append.mpr ⟨List.forall_mem_cons.mpr ⟨List.mem_cons_of_mem _ (List.mem_append_left _ (List.mem_append_right _ (List.mem_of_getElem? (i := 22) rfl))), nowords_in⟩, (fun _ h => List.mem_cons_of_mem _ (List.mem_append_right _ (h)))⟩⟩)
set_option maxRecDepth 20000 in
theorem gX11_bestLaw_X11_gives : GoodIn wsX11_bestLaw (wsV RX11 79 RX11 yX11_gives wsX11_gives) := goodIn_app (goodIn_by gd_X11_bestLaw (List.forall_mem_cons.mpr ⟨List.mem_cons_of_mem _ (List.mem_append_left _ (List.mem_append_right _ (List.mem_of_getElem? (i := 18) rfl))), List.forall_mem_cons.mpr ⟨List.mem_cons_of_mem _ (List.mem_append_left _ (List.mem_append_right _ (List.mem_of_getElem? (i := 19) rfl))), List.forall_mem_cons.mpr ⟨List.mem_cons_of_mem _ (List.mem_append_left _ (List.mem_append_right _ (List.mem_of_getElem? (i := 20) rfl))), List.forall_mem_cons.mpr ⟨List.mem_cons_of_mem _ (List.mem_append_left _ (List.mem_append_left _ (List.mem_of_getElem? (i := 3) rfl))), nowords_in⟩⟩⟩⟩)) ggX11_bestLaw_X11_gives
theorem dX11_bestLaw_0 : decode cX11_bestLaw 0 = .ok (.iconst 0, 1) := by decide +kernel
theorem dX11_bestLaw_1 : decode cX11_bestLaw 1 = .ok (.istore_n 1, 1) := by decide +kernel
theorem dX11_bestLaw_2 : decode cX11_bestLaw 2 = .ok (.iconst 1, 1) := by decide +kernel
theorem dX11_bestLaw_3 : decode cX11_bestLaw 3 = .ok (.istore_n 2, 1) := by decide +kernel
theorem dX11_bestLaw_4 : decode cX11_bestLaw 4 = .ok (.iload_n 2, 1) := by decide +kernel
theorem dX11_bestLaw_5 : decode cX11_bestLaw 5 = .ok (.iconst 4, 1) := by decide +kernel
theorem dX11_bestLaw_6 : decode cX11_bestLaw 6 = .ok (.if_icmp .ge 24, 3) := by decide +kernel
theorem dX11_bestLaw_9 : decode cX11_bestLaw 9 = .ok (.aload_n 0, 1) := by decide +kernel
theorem dX11_bestLaw_10 : decode cX11_bestLaw 10 = .ok (.iload_n 2, 1) := by decide +kernel
theorem dX11_bestLaw_11 : decode cX11_bestLaw 11 = .ok (.invokevirtual 354, 3) := by decide +kernel
theorem dX11_bestLaw_14 : decode cX11_bestLaw 14 = .ok (.aload_n 0, 1) := by decide +kernel
theorem dX11_bestLaw_15 : decode cX11_bestLaw 15 = .ok (.iload_n 1, 1) := by decide +kernel
theorem dX11_bestLaw_16 : decode cX11_bestLaw 16 = .ok (.invokevirtual 354, 3) := by decide +kernel
theorem dX11_bestLaw_19 : decode cX11_bestLaw 19 = .ok (.if_icmp .le 5, 3) := by decide +kernel
theorem dX11_bestLaw_22 : decode cX11_bestLaw 22 = .ok (.iload_n 2, 1) := by decide +kernel
theorem dX11_bestLaw_23 : decode cX11_bestLaw 23 = .ok (.istore_n 1, 1) := by decide +kernel
theorem dX11_bestLaw_24 : decode cX11_bestLaw 24 = .ok (.iinc 2 1, 3) := by decide +kernel
theorem dX11_bestLaw_27 : decode cX11_bestLaw 27 = .ok (.goto (-23), 3) := by decide +kernel
theorem dX11_bestLaw_30 : decode cX11_bestLaw 30 = .ok (.aload_n 0, 1) := by decide +kernel
theorem dX11_bestLaw_31 : decode cX11_bestLaw 31 = .ok (.iload_n 1, 1) := by decide +kernel
theorem dX11_bestLaw_32 : decode cX11_bestLaw 32 = .ok (.invokevirtual 79, 3) := by decide +kernel
theorem dX11_bestLaw_35 : decode cX11_bestLaw 35 = .ok (.ireturn, 1) := by decide +kernel
abbrev rmX11_bestLaw : Room := { frames := 6, cells := 0, slots := 0, locals := 137 }
set_option maxHeartbeats 4000000 in
set_option maxRecDepth 100000 in
theorem kX11_bestLaw (l : Launch) (D : va_G) (cy : Nat → ClassId) (h0 : Nat) (a0 : Nat → Nat) (s0 : Rc) (res : Int32 × Rc) (h : fX11_bestLaw s0 = some res) : CI l D cy yX11_bestLaw wsX11_bestLaw rmX11_bestLaw [.ref h0] (flat [WX11 cy h0 a0 s0]) (flat [WX11 cy h0 a0 res.2]) res.1 := by
  refine CI.of (cc := cX11_bestLaw) (maxL := 3) (by decide) rfl (Nat.le_of_ble_eq_true rfl) ?_
  intro p e s m args below meth c A QQ ls E hr
  obtain ⟨hx, hb, hml, hown, hts, hK, hN, hP, hD, hA, hl⟩ := E
  have hret : ∀ (pc : Nat) (H : Heap) (locs : List Loc) (ls : Array Slot) (u : Int32 × Rc), u = res → va_P D vwCl (flat [WX11 cy h0 a0 u.2]) H → va_D A (flat [WX11 cy h0 a0 u.2]) → va_S A s.heap H locs → decode cX11_bestLaw pc = .ok (.ireturn, 1) → W p l e rmX11_bestLaw s m args below meth c H locs 0 0 QQ (F0 m pc ls [.int u.1]) := by
    intro pc H locs ls u hu hP hD hS hd; subst hu; exact hr pc H locs ls _ rfl hP hD hS hd
  clear hr
  have hl : lv_has ls 3 [(0, .ref h0)] := hl
  unfold fX11_bestLaw at h
  suffices key : ∀ (H : Heap) (locs : List Loc), va_P D vwCl (flat [WX11 cy h0 a0 s0]) H → va_S A s.heap H locs → W p l e rmX11_bestLaw s m args below meth c H locs 0 0 QQ (F0 m 0 ls []) from key _ _ hP va_S.rf
  clear hP
  intro H locs hP hS
  refine lv_iconst (v := 0) hx hb dX11_bestLaw_0 (by decide) ?_
  refine lv_istore_n (lv' := [(1, .int (0 : Int32)), (0, .ref h0)]) hx hb dX11_bestLaw_1 rfl hl (by decide) rfl (fun ls hl => ?_)
  refine lv_iconst (v := 1) hx hb dX11_bestLaw_2 (by decide) ?_
  refine lv_istore_n (lv' := [(2, .int (1 : Int32)), (1, .int (0 : Int32)), (0, .ref h0)]) hx hb dX11_bestLaw_3 rfl hl (by decide) rfl (fun ls hl => ?_)
  have L4 : ∀ (n : Nat) (q4 : Int32 × Int32 × Rc) (o : Int32 × Rc), loopO (fX11_bestLaw_L4) n q4 = some o → ∀ (H : Heap) (locs : List Loc) (ls : Array Slot), lv_has ls 3 [(0, .ref h0), (1, .int q4.1), (2, .int q4.2.1)] → va_P D vwCl (flat [WX11 cy h0 a0 q4.2.2]) H → va_D A (flat [WX11 cy h0 a0 q4.2.2]) → va_S A s.heap H locs → ∀ (kk30 : ∀ (H : Heap) (locs : List Loc) (ls : Array Slot), lv_has ls 3 [(0, .ref h0), (1, .int o.1)] → va_P D vwCl (flat [WX11 cy h0 a0 o.2]) H → va_D A (flat [WX11 cy h0 a0 o.2]) → va_S A s.heap H locs → W p l e rmX11_bestLaw s m args below meth c H locs 0 0 QQ (F0 m 30 ls [])), W p l e rmX11_bestLaw s m args below meth c H locs 0 0 QQ (F0 m 4 ls []) := by
    intro n
    induction n with
    | zero => intro q4 o h; exact absurd h (by rw [loopO_zero]; intro z; cases z)
    | succ n ih =>
      intro q4 o h H locs ls hl hP hD hS kk30
      obtain ⟨w, h, hgo, hst⟩ := loopO_elim h
      unfold fX11_bestLaw_L4 at h
      refine lv_iload_n hx hb dX11_bestLaw_4 rfl (lv_at hl 2 rfl) ?_
      refine lv_iconst (v := 4) hx hb dX11_bestLaw_5 (by decide) ?_
      refine lv_icmp_ge (tgt := 30) hx hb dX11_bestLaw_6 (by decide) (fun c1 => ?_) (fun c1 => ?_)
      · replace h := (if_pos c1).symm.trans h
        have eo := hst _ (Option.some.inj h).symm
        subst eo
        exact kk30 H locs ls (lv_sub hl [0, 1] rfl) hP hD hS
      · replace h := (if_neg c1).symm.trans h
        refine lv_aload_n hx hb dX11_bestLaw_9 rfl (lv_at hl 0 rfl) ?_
        refine lv_iload_n hx hb dX11_bestLaw_10 rfl (lv_at hl 2 rfl) ?_
        obtain ⟨r2, hr2, h⟩ := bd_elim h
        refine ca_i (w' := [WX11 cy h0 a0 r2.2]) (rn_V (As := [.int q4.2.1]) (rest := []) ⟨hx, hb, hml, hown, hts⟩ (kX11_keptWith l D cy h0 a0 q4.2.2 q4.2.1 r2 hr2 H.size) (cwV 1 hts gX11_bestLaw_X11_keptWith rfl rfl rfl (by decide +kernel) ⟨Nat.le_of_ble_eq_true rfl, Nat.le_of_ble_eq_true rfl⟩) hK hN hP hD [0] rfl rfl (ci := 11) (q0 := 0) rfl rfl rfl rfl hl.1 rfl (Nat.le_of_ble_eq_true rfl) dX11_bestLaw_11 ⟨Nat.le_refl 0, Nat.le_refl 0⟩) hP hD hS hA [0] ⟨rfl, rfl, rfl, rfl⟩ (fun H locs hP hD hS => ?_)
        refine lv_aload_n hx hb dX11_bestLaw_14 rfl (lv_at hl 0 rfl) ?_
        refine lv_iload_n hx hb dX11_bestLaw_15 rfl (lv_at hl 1 rfl) ?_
        obtain ⟨r3, hr3, h⟩ := bd_elim h
        refine ca_i (w' := [WX11 cy h0 a0 r3.2]) (rn_V (As := [.int q4.1]) (rest := [.int r2.1]) ⟨hx, hb, hml, hown, hts⟩ (kX11_keptWith l D cy h0 a0 r2.2 q4.1 r3 hr3 H.size) (cwV 1 hts gX11_bestLaw_X11_keptWith rfl rfl rfl (by decide +kernel) ⟨Nat.le_of_ble_eq_true rfl, Nat.le_of_ble_eq_true rfl⟩) hK hN hP hD [0] rfl rfl (ci := 11) (q0 := 0) rfl rfl rfl rfl hl.1 rfl (Nat.le_of_ble_eq_true rfl) dX11_bestLaw_16 ⟨Nat.le_refl 0, Nat.le_refl 0⟩) hP hD hS hA [0] ⟨rfl, rfl, rfl, rfl⟩ (fun H locs hP hD hS => ?_)
        refine lv_icmp_le (tgt := 24) hx hb dX11_bestLaw_19 (by decide) (fun c4 => ?_) (fun c4 => ?_)
        · replace h := (if_pos c4).symm.trans h
          refine lv_iinc (v := (q4.2.1 + (1 : Int32))) (lv' := [(2, .int (q4.2.1 + (1 : Int32))), (0, .ref h0), (1, .int q4.1)]) hx hb dX11_bestLaw_24 hl (k := 2) rfl rfl (by decide) rfl (fun ls hl => ?_)
          refine lv_goto (tgt := 4) hx hb dX11_bestLaw_27 (by decide) ?_
          exact ih _ o (hgo _ (Option.some.inj h).symm) H locs ls (lv_sub hl [1, 2, 0] rfl) hP hD hS kk30
        · replace h := (if_neg c4).symm.trans h
          refine lv_iload_n hx hb dX11_bestLaw_22 rfl (lv_at hl 2 rfl) ?_
          refine lv_istore_n (lv' := [(1, .int q4.2.1), (0, .ref h0), (2, .int q4.2.1)]) hx hb dX11_bestLaw_23 rfl hl (by decide) rfl (fun ls hl => ?_)
          refine lv_iinc (v := (q4.2.1 + (1 : Int32))) (lv' := [(2, .int (q4.2.1 + (1 : Int32))), (1, .int q4.2.1), (0, .ref h0)]) hx hb dX11_bestLaw_24 hl (k := 2) rfl rfl (by decide) rfl (fun ls hl => ?_)
          refine lv_goto (tgt := 4) hx hb dX11_bestLaw_27 (by decide) ?_
          exact ih _ o (hgo _ (Option.some.inj h).symm) H locs ls (lv_sub hl [2, 1, 0] rfl) hP hD hS kk30
  obtain ⟨o4, ho4, h⟩ := bd_elim h
  obtain ⟨n4, hn4⟩ := loopF_some ho4
  refine L4 n4 _ o4 hn4 H locs ls (lv_sub hl [2, 1, 0] rfl) hP hD hS (fun H locs ls hl hP hD hS => ?_)
  refine lv_aload_n hx hb dX11_bestLaw_30 rfl (lv_at hl 0 rfl) ?_
  refine lv_iload_n hx hb dX11_bestLaw_31 rfl (lv_at hl 1 rfl) ?_
  obtain ⟨r5, hr5, h⟩ := lt_elim h
  refine ca_i (w' := [WX11 cy h0 a0 r5.2]) (rn_V (As := [.int o4.1]) (rest := []) ⟨hx, hb, hml, hown, hts⟩ (kX11_gives l D cy h0 a0 o4.2 o4.1 r5 hr5.symm H.size) (cwV 1 hts gX11_bestLaw_X11_gives rfl rfl rfl (by decide +kernel) ⟨Nat.le_of_ble_eq_true rfl, Nat.le_of_ble_eq_true rfl⟩) hK hN hP hD [0] rfl rfl (ci := 11) (q0 := 0) rfl rfl rfl rfl hl.1 rfl (Nat.le_of_ble_eq_true rfl) dX11_bestLaw_32 ⟨Nat.le_refl 0, Nat.le_refl 0⟩) hP hD hS hA [0] ⟨rfl, rfl, rfl, rfl⟩ (fun H locs hP hD hS => ?_)
  exact hret 35 H locs ls (r5.1, r5.2) (Option.some.inj h) hP hD hS dX11_bestLaw_35
theorem dX11_bits_0 : decode cX11_bits 0 = .ok (.iconst 0, 1) := by decide +kernel
theorem dX11_bits_1 : decode cX11_bits 1 = .ok (.istore_n 1, 1) := by decide +kernel
theorem dX11_bits_2 : decode cX11_bits 2 = .ok (.iload_n 0, 1) := by decide +kernel
theorem dX11_bits_3 : decode cX11_bits 3 = .ok (.istore_n 2, 1) := by decide +kernel
theorem dX11_bits_4 : decode cX11_bits 4 = .ok (.iload_n 2, 1) := by decide +kernel
theorem dX11_bits_5 : decode cX11_bits 5 = .ok (.ifCond .eq 15, 3) := by decide +kernel
theorem dX11_bits_8 : decode cX11_bits 8 = .ok (.iinc 1 1, 3) := by decide +kernel
theorem dX11_bits_11 : decode cX11_bits 11 = .ok (.iload_n 2, 1) := by decide +kernel
theorem dX11_bits_12 : decode cX11_bits 12 = .ok (.iload_n 2, 1) := by decide +kernel
theorem dX11_bits_13 : decode cX11_bits 13 = .ok (.iconst 1, 1) := by decide +kernel
theorem dX11_bits_14 : decode cX11_bits 14 = .ok (.isub, 1) := by decide +kernel
theorem dX11_bits_15 : decode cX11_bits 15 = .ok (.iand, 1) := by decide +kernel
theorem dX11_bits_16 : decode cX11_bits 16 = .ok (.istore_n 2, 1) := by decide +kernel
theorem dX11_bits_17 : decode cX11_bits 17 = .ok (.goto (-13), 3) := by decide +kernel
theorem dX11_bits_20 : decode cX11_bits 20 = .ok (.iload_n 1, 1) := by decide +kernel
theorem dX11_bits_21 : decode cX11_bits 21 = .ok (.ireturn, 1) := by decide +kernel
abbrev rmX11_bits : Room := { frames := 0, cells := 0, slots := 0, locals := 0 }
set_option maxHeartbeats 4000000 in
set_option maxRecDepth 100000 in
theorem kX11_bits (l : Launch) (D : va_G) (cy : Nat → ClassId) (p1 : Int32) (res : Int32) (h : fX11_bits p1 = some res) : CI l D cy yX11_bits wsX11_bits rmX11_bits [.int p1] (flat []) (flat []) res := by
  refine CI.of (cc := cX11_bits) (maxL := 3) (by decide) rfl (Nat.le_of_ble_eq_true rfl) ?_
  intro p e s m args below meth c A QQ ls E hr
  obtain ⟨hx, hb, hml, hown, hts, hK, hN, hP, hD, hA, hl⟩ := E
  have hret : ∀ (pc : Nat) (H : Heap) (locs : List Loc) (ls : Array Slot) (u : Int32), u = res → va_P D vwCl (flat []) H → va_D A (flat []) → va_S A s.heap H locs → decode cX11_bits pc = .ok (.ireturn, 1) → W p l e rmX11_bits s m args below meth c H locs 0 0 QQ (F0 m pc ls [.int u]) := by
    intro pc H locs ls u hu hP hD hS hd; subst hu; exact hr pc H locs ls _ rfl hP hD hS hd
  clear hr
  have hl : lv_has ls 3 [(0, .int p1)] := hl
  unfold fX11_bits at h
  suffices key : ∀ (H : Heap) (locs : List Loc), va_P D vwCl (flat []) H → va_S A s.heap H locs → W p l e rmX11_bits s m args below meth c H locs 0 0 QQ (F0 m 0 ls []) from key _ _ hP va_S.rf
  clear hP
  intro H locs hP hS
  refine lv_iconst (v := 0) hx hb dX11_bits_0 (by decide) ?_
  refine lv_istore_n (lv' := [(1, .int (0 : Int32)), (0, .int p1)]) hx hb dX11_bits_1 rfl hl (by decide) rfl (fun ls hl => ?_)
  refine lv_iload_n hx hb dX11_bits_2 rfl (lv_at hl 1 rfl) ?_
  refine lv_istore_n (lv' := [(2, .int p1), (1, .int (0 : Int32)), (0, .int p1)]) hx hb dX11_bits_3 rfl hl (by decide) rfl (fun ls hl => ?_)
  have L4 : ∀ (n : Nat) (q4 : Int32 × Int32) (o : Int32), loopO (fX11_bits_L4) n q4 = some o → ∀ (H : Heap) (locs : List Loc) (ls : Array Slot), lv_has ls 3 [(1, .int q4.1), (2, .int q4.2)] → va_P D vwCl (flat []) H → va_D A (flat []) → va_S A s.heap H locs → ∀ (kk20 : ∀ (H : Heap) (locs : List Loc) (ls : Array Slot), lv_has ls 3 [(1, .int o)] → va_P D vwCl (flat []) H → va_D A (flat []) → va_S A s.heap H locs → W p l e rmX11_bits s m args below meth c H locs 0 0 QQ (F0 m 20 ls [])), W p l e rmX11_bits s m args below meth c H locs 0 0 QQ (F0 m 4 ls []) := by
    intro n
    induction n with
    | zero => intro q4 o h; exact absurd h (by rw [loopO_zero]; intro z; cases z)
    | succ n ih =>
      intro q4 o h H locs ls hl hP hD hS kk20
      obtain ⟨w, h, hgo, hst⟩ := loopO_elim h
      unfold fX11_bits_L4 at h
      refine lv_iload_n hx hb dX11_bits_4 rfl (lv_at hl 1 rfl) ?_
      refine lv_if_eq (tgt := 20) hx hb dX11_bits_5 (by decide) (fun c1 => ?_) (fun c1 => ?_)
      · replace h := (if_pos c1).symm.trans h
        have eo := hst _ (Option.some.inj h).symm
        subst eo
        exact kk20 H locs ls (lv_sub hl [0] rfl) hP hD hS
      · replace h := (if_neg c1).symm.trans h
        refine lv_iinc (v := (q4.1 + (1 : Int32))) (lv' := [(1, .int (q4.1 + (1 : Int32))), (2, .int q4.2)]) hx hb dX11_bits_8 hl (k := 0) rfl rfl (by decide) rfl (fun ls hl => ?_)
        refine lv_iload_n hx hb dX11_bits_11 rfl (lv_at hl 1 rfl) ?_
        refine lv_iload_n hx hb dX11_bits_12 rfl (lv_at hl 1 rfl) ?_
        refine lv_iconst (v := 1) hx hb dX11_bits_13 (by decide) ?_
        refine lv_isub hx hb dX11_bits_14 ?_
        refine lv_iand hx hb dX11_bits_15 ?_
        refine lv_topi (fun x2 ex2 => ?_)
        replace h := lt_use h x2 ex2
        refine lv_istore_n (lv' := [(2, .int x2), (1, .int (q4.1 + (1 : Int32)))]) hx hb dX11_bits_16 rfl hl (by decide) rfl (fun ls hl => ?_)
        refine lv_goto (tgt := 4) hx hb dX11_bits_17 (by decide) ?_
        exact ih _ o (hgo _ (Option.some.inj h).symm) H locs ls (lv_sub hl [1, 0] rfl) hP hD hS kk20
  obtain ⟨o4, ho4, h⟩ := bd_elim h
  obtain ⟨n4, hn4⟩ := loopF_some ho4
  refine L4 n4 _ o4 hn4 H locs ls (lv_sub hl [1, 0] rfl) hP hD hS (fun H locs ls hl hP hD hS => ?_)
  refine lv_iload_n hx hb dX11_bits_20 rfl (lv_at hl 0 rfl) ?_
  exact hret 21 H locs ls o4 (Option.some.inj h) hP hD hS dX11_bits_21
theorem dX11_bottom_0 : decode cX11_bottom 0 = .ok (.aload_n 0, 1) := by decide +kernel
theorem dX11_bottom_1 : decode cX11_bottom 1 = .ok (.getfield 17, 3) := by decide +kernel
theorem dX11_bottom_4 : decode cX11_bottom 4 = .ok (.lreturn, 1) := by decide +kernel
abbrev rmX11_bottom : Room := { frames := 0, cells := 0, slots := 0, locals := 0 }
set_option maxHeartbeats 4000000 in
set_option maxRecDepth 100000 in
theorem kX11_bottom (l : Launch) (D : va_G) (cy : Nat → ClassId) (h0 : Nat) (a0 : Nat → Nat) (s0 : Rc) (res : Int64) (h : fX11_bottom s0 = res) : CL l D cy yX11_bottom wsX11_bottom rmX11_bottom [.ref h0] (flat [WX11 cy h0 a0 s0]) (flat [WX11 cy h0 a0 s0]) res := by
  refine CL.of (cc := cX11_bottom) (maxL := 1) (by decide) rfl (Nat.le_of_ble_eq_true rfl) ?_
  intro p e s m args below meth c A QQ ls E hr
  obtain ⟨hx, hb, hml, hown, hts, hK, hN, hP, hD, hA, hl⟩ := E
  have hret : ∀ (pc : Nat) (H : Heap) (locs : List Loc) (ls : Array Slot) (u : Int64), u = res → va_P D vwCl (flat [WX11 cy h0 a0 s0]) H → va_D A (flat [WX11 cy h0 a0 s0]) → va_S A s.heap H locs → decode cX11_bottom pc = .ok (.lreturn, 1) → W p l e rmX11_bottom s m args below meth c H locs 0 0 QQ (F0 m pc ls [.long u]) := by
    intro pc H locs ls u hu hP hD hS hd; subst hu; exact hr pc H locs ls _ rfl hP hD hS hd
  clear hr
  have hl : lv_has ls 1 [(0, .ref h0)] := hl
  have hinX11 : ∀ w ∈ wsX110, w ∈ wsX11_bottom := fun _ h => List.mem_cons_of_mem _ (List.mem_append_right _ h)
  unfold fX11_bottom at h
  suffices key : ∀ (H : Heap) (locs : List Loc), va_P D vwCl (flat [WX11 cy h0 a0 s0]) H → va_S A s.heap H locs → W p l e rmX11_bottom s m args below meth c H locs 0 0 QQ (F0 m 0 ls []) from key _ _ hP va_S.rf
  clear hP
  intro H locs hP hS
  refine lv_aload_n hx hb dX11_bottom_0 rfl (lv_at hl 0 rfl) ?_
  refine va_get (D := D) (ci := 11) (v := .long (gl s0 4)) (C := RX11) (T := TX11) (N := 38) hx hb hts hinX11 hown hK hP 0 rfl rfl 4 (by decide) (hts (.fieldLink RX11 17 "KneeBenchModel" "bottom" "J") (List.mem_of_getElem? (i := 1) rfl)) (fun _ h9 => h9) rfl dX11_bottom_1 ?_
  exact hret 4 H locs ls (gl s0 4) h hP hD hS dX11_bottom_4
theorem dX11_isFrom_0 : decode cX11_isFrom 0 = .ok (.lload_n 0, 1) := by decide +kernel
theorem dX11_isFrom_1 : decode cX11_isFrom 1 = .ok (.lload_n 2, 1) := by decide +kernel
theorem dX11_isFrom_2 : decode cX11_isFrom 2 = .ok (.lcmp, 1) := by decide +kernel
theorem dX11_isFrom_3 : decode cX11_isFrom 3 = .ok (.ifCond .lt 14, 3) := by decide +kernel
theorem dX11_isFrom_6 : decode cX11_isFrom 6 = .ok (.lload_n 0, 1) := by decide +kernel
theorem dX11_isFrom_7 : decode cX11_isFrom 7 = .ok (.lload 4, 2) := by decide +kernel
theorem dX11_isFrom_9 : decode cX11_isFrom 9 = .ok (.lcmp, 1) := by decide +kernel
theorem dX11_isFrom_10 : decode cX11_isFrom 10 = .ok (.ifCond .gt 7, 3) := by decide +kernel
theorem dX11_isFrom_13 : decode cX11_isFrom 13 = .ok (.iconst 1, 1) := by decide +kernel
theorem dX11_isFrom_14 : decode cX11_isFrom 14 = .ok (.goto 4, 3) := by decide +kernel
theorem dX11_isFrom_17 : decode cX11_isFrom 17 = .ok (.iconst 0, 1) := by decide +kernel
theorem dX11_isFrom_18 : decode cX11_isFrom 18 = .ok (.ireturn, 1) := by decide +kernel
abbrev rmX11_isFrom : Room := { frames := 0, cells := 0, slots := 0, locals := 0 }
set_option maxHeartbeats 4000000 in
set_option maxRecDepth 100000 in
theorem kX11_isFrom (l : Launch) (D : va_G) (cy : Nat → ClassId) (p1 : Int64) (p2 : Int64) (p3 : Int64) (res : Int32) (h : fX11_isFrom p1 p2 p3 = res) : CZ l D cy yX11_isFrom wsX11_isFrom rmX11_isFrom [.long p1, .long p2, .long p3] (flat []) (flat []) res := by
  refine CZ.of (cc := cX11_isFrom) (maxL := 6) (by decide) rfl (Nat.le_of_ble_eq_true rfl) ?_
  intro p e s m args below meth c A QQ ls E hr
  obtain ⟨hx, hb, hml, hown, hts, hK, hN, hP, hD, hA, hl⟩ := E
  have hret : ∀ (pc : Nat) (H : Heap) (locs : List Loc) (ls : Array Slot) (u : Int32), u = res → va_P D vwCl (flat []) H → va_D A (flat []) → va_S A s.heap H locs → isb u = true → decode cX11_isFrom pc = .ok (.ireturn, 1) → W p l e rmX11_isFrom s m args below meth c H locs 0 0 QQ (F0 m pc ls [.int u]) := by
    intro pc H locs ls u hu hP hD hS hz hd; subst hu; exact hr pc H locs ls _ rfl hP hD hS hz hd
  clear hr
  have hl : lv_has ls 6 [(0, .long p1), (2, .long p2), (4, .long p3)] := hl
  unfold fX11_isFrom at h
  suffices key : ∀ (H : Heap) (locs : List Loc), va_P D vwCl (flat []) H → va_S A s.heap H locs → W p l e rmX11_isFrom s m args below meth c H locs 0 0 QQ (F0 m 0 ls []) from key _ _ hP va_S.rf
  clear hP
  intro H locs hP hS
  refine lv_lload_n hx hb dX11_isFrom_0 rfl (lv_at hl 0 rfl) ?_
  refine lv_lload_n hx hb dX11_isFrom_1 rfl (lv_at hl 1 rfl) ?_
  refine W.lcmp hx hb dX11_isFrom_2 ?_
  refine lv_if_lt (tgt := 17) hx hb dX11_isFrom_3 (by decide) (fun c1 => ?_) (fun c1 => ?_)
  · replace h := (if_pos (lg_clt.mp c1)).symm.trans h
    refine lv_iconst (v := 0) hx hb dX11_isFrom_17 (by decide) ?_
    exact hret 18 H locs ls (0 : Int32) h hP hD hS (show isb (0 : Int32) = true by decide) dX11_isFrom_18
  · replace h := (if_neg (fun z => c1 (lg_clt.mpr z))).symm.trans h
    refine lv_lload_n hx hb dX11_isFrom_6 rfl (lv_at hl 0 rfl) ?_
    refine lv_lload hx hb dX11_isFrom_7 (lv_at hl 2 rfl) ?_
    refine W.lcmp hx hb dX11_isFrom_9 ?_
    refine lv_if_gt (tgt := 17) hx hb dX11_isFrom_10 (by decide) (fun c2 => ?_) (fun c2 => ?_)
    · replace h := (if_pos (lg_cgt.mp c2)).symm.trans h
      refine lv_iconst (v := 0) hx hb dX11_isFrom_17 (by decide) ?_
      exact hret 18 H locs ls (0 : Int32) h hP hD hS (show isb (0 : Int32) = true by decide) dX11_isFrom_18
    · replace h := (if_neg (fun z => c2 (lg_cgt.mpr z))).symm.trans h
      refine lv_iconst (v := 1) hx hb dX11_isFrom_13 (by decide) ?_
      refine lv_goto (tgt := 18) hx hb dX11_isFrom_14 (by decide) ?_
      exact hret 18 H locs ls (1 : Int32) h hP hD hS (show isb (1 : Int32) = true by decide) dX11_isFrom_18
theorem dX11_is_0 : decode cX11_is 0 = .ok (.aload_n 0, 1) := by decide +kernel
theorem dX11_is_1 : decode cX11_is 1 = .ok (.iload_n 1, 1) := by decide +kernel
theorem dX11_is_2 : decode cX11_is 2 = .ok (.putfield 69, 3) := by decide +kernel
theorem dX11_is_5 : decode cX11_is 5 = .ok (.iload_n 1, 1) := by decide +kernel
theorem dX11_is_6 : decode cX11_is 6 = .ok (.ifCond .ne 7, 3) := by decide +kernel
theorem dX11_is_9 : decode cX11_is 9 = .ok (.iconst 1, 1) := by decide +kernel
theorem dX11_is_10 : decode cX11_is 10 = .ok (.goto 4, 3) := by decide +kernel
theorem dX11_is_13 : decode cX11_is 13 = .ok (.iconst 0, 1) := by decide +kernel
theorem dX11_is_14 : decode cX11_is 14 = .ok (.ireturn, 1) := by decide +kernel
abbrev rmX11_is : Room := { frames := 0, cells := 0, slots := 0, locals := 0 }
set_option maxHeartbeats 4000000 in
set_option maxRecDepth 100000 in
theorem kX11_is (l : Launch) (D : va_G) (cy : Nat → ClassId) (h0 : Nat) (a0 : Nat → Nat) (s0 : Rc) (p1 : Int32) (res : Int32 × Rc) (h : fX11_is p1 s0 = res) : CZ l D cy yX11_is wsX11_is rmX11_is [.ref h0, .int p1] (flat [WX11 cy h0 a0 s0]) (flat [WX11 cy h0 a0 res.2]) res.1 := by
  refine CZ.of (cc := cX11_is) (maxL := 2) (by decide) rfl (Nat.le_of_ble_eq_true rfl) ?_
  intro p e s m args below meth c A QQ ls E hr
  obtain ⟨hx, hb, hml, hown, hts, hK, hN, hP, hD, hA, hl⟩ := E
  have hret : ∀ (pc : Nat) (H : Heap) (locs : List Loc) (ls : Array Slot) (u : Int32 × Rc), u = res → va_P D vwCl (flat [WX11 cy h0 a0 u.2]) H → va_D A (flat [WX11 cy h0 a0 u.2]) → va_S A s.heap H locs → isb u.1 = true → decode cX11_is pc = .ok (.ireturn, 1) → W p l e rmX11_is s m args below meth c H locs 0 0 QQ (F0 m pc ls [.int u.1]) := by
    intro pc H locs ls u hu hP hD hS hz hd; subst hu; exact hr pc H locs ls _ rfl hP hD hS hz hd
  clear hr
  have hl : lv_has ls 2 [(0, .ref h0), (1, .int p1)] := hl
  have hinX11 : ∀ w ∈ wsX110, w ∈ wsX11_is := fun _ h => List.mem_cons_of_mem _ (List.mem_append_right _ h)
  unfold fX11_is at h
  suffices key : ∀ (H : Heap) (locs : List Loc), va_P D vwCl (flat [WX11 cy h0 a0 s0]) H → va_S A s.heap H locs → W p l e rmX11_is s m args below meth c H locs 0 0 QQ (F0 m 0 ls []) from key _ _ hP va_S.rf
  clear hP
  intro H locs hP hS
  refine lv_aload_n hx hb dX11_is_0 rfl (lv_at hl 0 rfl) ?_
  refine lv_iload_n hx hb dX11_is_1 rfl (lv_at hl 1 rfl) ?_
  obtain ⟨s0_1, es, h⟩ := lt_elim h
  refine va_put (D := D) (ci := 11) (v := .int p1) (ty := .int) (C := RX11) (T := TX11) (N := 38) hx hb hts hinX11 tyX11 tyX11_ok nmX11 hown hK hP hD hS 0 rfl rfl 2 (by decide) (hts (.fieldLink RX11 69 "KneeBenchModel" "status" "I") (List.mem_of_getElem? (i := 1) rfl)) (fun _ h9 => h9) rfl (by decide +kernel) rfl rfl (Nat.le_of_ble_eq_true rfl) dX11_is_2 (fun H locs hP hD hS => ?_)
  have hP : va_P D vwCl (flat [WX11 cy h0 a0 s0_1]) H := by rw [es]; exact hP
  have hD : va_D A (flat [WX11 cy h0 a0 s0_1]) := by rw [es]; exact hD
  clear es
  refine lv_iload_n hx hb dX11_is_5 rfl (lv_at hl 1 rfl) ?_
  refine lv_if_ne (tgt := 13) hx hb dX11_is_6 (by decide) (fun c2 => ?_) (fun c2 => ?_)
  · replace h := (if_neg c2).symm.trans h
    refine lv_iconst (v := 0) hx hb dX11_is_13 (by decide) ?_
    exact hret 14 H locs ls ((0 : Int32), s0_1) h hP hD hS (show isb (0 : Int32) = true by decide) dX11_is_14
  · replace h := (if_pos c2).symm.trans h
    refine lv_iconst (v := 1) hx hb dX11_is_9 (by decide) ?_
    refine lv_goto (tgt := 14) hx hb dX11_is_10 (by decide) ?_
    exact hret 14 H locs ls ((1 : Int32), s0_1) h hP hD hS (show isb (1 : Int32) = true by decide) dX11_is_14
theorem gd_X11_brandy : wsX11_brandy.all goodWord = true := by decide +kernel
set_option maxRecDepth 20000 in
theorem ggX11_brandy_X11_isFarmer : GoodIn wsX11_brandy wsX11_isFarmer := goodIn_by gd_X11_brandy (List.forall_mem_cons.mpr ⟨List.mem_cons_of_mem _ (List.mem_append_left _ (List.mem_of_getElem? (i := 6) rfl)), List.forall_mem_append.mpr ⟨List.forall_mem_cons.mpr ⟨List.mem_cons_of_mem _ (List.mem_append_left _ (List.mem_of_getElem? (i := 1) rfl)), nowords_in⟩, (fun _ h => List.mem_cons_of_mem _ (List.mem_append_right _ (h)))⟩⟩)
set_option maxRecDepth 20000 in
theorem gX11_brandy_X11_isFarmer : GoodIn wsX11_brandy (wsV RX11 267 RX11 yX11_isFarmer wsX11_isFarmer) := goodIn_app (goodIn_by gd_X11_brandy (List.forall_mem_cons.mpr ⟨List.mem_cons_of_mem _ (List.mem_append_left _ (List.mem_of_getElem? (i := 2) rfl)), List.forall_mem_cons.mpr ⟨List.mem_cons_of_mem _ (List.mem_append_left _ (List.mem_of_getElem? (i := 3) rfl)), List.forall_mem_cons.mpr ⟨List.mem_cons_of_mem _ (List.mem_append_left _ (List.mem_of_getElem? (i := 4) rfl)), List.forall_mem_cons.mpr ⟨List.mem_cons_of_mem _ (List.mem_append_left _ (List.mem_of_getElem? (i := 5) rfl)), nowords_in⟩⟩⟩⟩)) ggX11_brandy_X11_isFarmer
set_option maxRecDepth 20000 in
theorem ggX11_brandy_X11_isFrom : GoodIn wsX11_brandy wsX11_isFrom := goodIn_by gd_X11_brandy (List.forall_mem_cons.mpr ⟨List.mem_cons_of_mem _ (List.mem_append_left _ (List.mem_of_getElem? (i := 9) rfl)), nowords_in⟩)
set_option maxRecDepth 20000 in
theorem gX11_brandy_X11_isFrom : GoodIn wsX11_brandy (va_wsS RX11 282 yX11_isFrom wsX11_isFrom) := goodIn_app (goodIn_by gd_X11_brandy (List.forall_mem_cons.mpr ⟨List.mem_cons_of_mem _ (List.mem_append_left _ (List.mem_of_getElem? (i := 7) rfl)), List.forall_mem_cons.mpr ⟨List.mem_cons_of_mem _ (List.mem_append_left _ (List.mem_of_getElem? (i := 8) rfl)), List.forall_mem_cons.mpr ⟨List.mem_cons_of_mem _ (List.mem_append_left _ (List.mem_of_getElem? (i := 5) rfl)), nowords_in⟩⟩⟩)) ggX11_brandy_X11_isFrom
set_option maxRecDepth 20000 in
theorem ggX11_brandy_X11_is : GoodIn wsX11_brandy wsX11_is := goodIn_by gd_X11_brandy (List.forall_mem_cons.mpr ⟨List.mem_cons_of_mem _ (List.mem_append_left _ (List.mem_of_getElem? (i := 13) rfl)), List.forall_mem_append.mpr ⟨List.forall_mem_cons.mpr ⟨List.mem_cons_of_mem _ (List.mem_append_left _ (List.mem_of_getElem? (i := 14) rfl)), nowords_in⟩, (fun _ h => List.mem_cons_of_mem _ (List.mem_append_right _ (h)))⟩⟩)
set_option maxRecDepth 20000 in
theorem gX11_brandy_X11_is : GoodIn wsX11_brandy (wsV RX11 82 RX11 yX11_is wsX11_is) := goodIn_app (goodIn_by gd_X11_brandy (List.forall_mem_cons.mpr ⟨List.mem_cons_of_mem _ (List.mem_append_left _ (List.mem_of_getElem? (i := 10) rfl)), List.forall_mem_cons.mpr ⟨List.mem_cons_of_mem _ (List.mem_append_left _ (List.mem_of_getElem? (i := 11) rfl)), List.forall_mem_cons.mpr ⟨List.mem_cons_of_mem _ (List.mem_append_left _ (List.mem_of_getElem? (i := 12) rfl)), List.forall_mem_cons.mpr ⟨List.mem_cons_of_mem _ (List.mem_append_left _ (List.mem_of_getElem? (i := 5) rfl)), nowords_in⟩⟩⟩⟩)) ggX11_brandy_X11_is
set_option maxRecDepth 20000 in
theorem ggX11_brandy_X11_farmerRow : GoodIn wsX11_brandy wsX11_farmerRow := goodIn_by gd_X11_brandy (List.forall_mem_cons.mpr ⟨List.mem_cons_of_mem _ (List.mem_append_left _ (List.mem_of_getElem? (i := 17) rfl)), nowords_in⟩)
set_option maxRecDepth 20000 in
theorem gX11_brandy_X11_farmerRow : GoodIn wsX11_brandy (va_wsS RX11 177 yX11_farmerRow wsX11_farmerRow) := goodIn_app (goodIn_by gd_X11_brandy (List.forall_mem_cons.mpr ⟨List.mem_cons_of_mem _ (List.mem_append_left _ (List.mem_of_getElem? (i := 15) rfl)), List.forall_mem_cons.mpr ⟨List.mem_cons_of_mem _ (List.mem_append_left _ (List.mem_of_getElem? (i := 16) rfl)), List.forall_mem_cons.mpr ⟨List.mem_cons_of_mem _ (List.mem_append_left _ (List.mem_of_getElem? (i := 5) rfl)), nowords_in⟩⟩⟩)) ggX11_brandy_X11_farmerRow
theorem dX11_brandy_0 : decode cX11_brandy 0 = .ok (.aload_n 0, 1) := by decide +kernel
theorem dX11_brandy_1 : decode cX11_brandy 1 = .ok (.iload_n 1, 1) := by decide +kernel
theorem dX11_brandy_2 : decode cX11_brandy 2 = .ok (.invokevirtual 267, 3) := by decide +kernel
theorem dX11_brandy_5 : decode cX11_brandy 5 = .ok (.ifCond .eq 15, 3) := by decide +kernel
theorem dX11_brandy_8 : decode cX11_brandy 8 = .ok (.iload_n 2, 1) := by decide +kernel
theorem dX11_brandy_9 : decode cX11_brandy 9 = .ok (.i2l, 1) := by decide +kernel
theorem dX11_brandy_10 : decode cX11_brandy 10 = .ok (.lconst 0, 1) := by decide +kernel
theorem dX11_brandy_11 : decode cX11_brandy 11 = .ok (.ldc2_w 294, 3) := by decide +kernel
theorem dX11_brandy_14 : decode cX11_brandy 14 = .ok (.invokestatic 282, 3) := by decide +kernel
theorem dX11_brandy_17 : decode cX11_brandy 17 = .ok (.ifCond .ne 9, 3) := by decide +kernel
theorem dX11_brandy_20 : decode cX11_brandy 20 = .ok (.aload_n 0, 1) := by decide +kernel
theorem dX11_brandy_21 : decode cX11_brandy 21 = .ok (.iconst 1, 1) := by decide +kernel
theorem dX11_brandy_22 : decode cX11_brandy 22 = .ok (.invokevirtual 82, 3) := by decide +kernel
theorem dX11_brandy_25 : decode cX11_brandy 25 = .ok (.ireturn, 1) := by decide +kernel
theorem dX11_brandy_26 : decode cX11_brandy 26 = .ok (.aload_n 0, 1) := by decide +kernel
theorem dX11_brandy_27 : decode cX11_brandy 27 = .ok (.getfield 7, 3) := by decide +kernel
theorem dX11_brandy_30 : decode cX11_brandy 30 = .ok (.iconst 0, 1) := by decide +kernel
theorem dX11_brandy_31 : decode cX11_brandy 31 = .ok (.iload_n 1, 1) := by decide +kernel
theorem dX11_brandy_32 : decode cX11_brandy 32 = .ok (.invokestatic 177, 3) := by decide +kernel
theorem dX11_brandy_35 : decode cX11_brandy 35 = .ok (.iconst 2, 1) := by decide +kernel
theorem dX11_brandy_36 : decode cX11_brandy 36 = .ok (.iadd, 1) := by decide +kernel
theorem dX11_brandy_37 : decode cX11_brandy 37 = .ok (.iload_n 2, 1) := by decide +kernel
theorem dX11_brandy_38 : decode cX11_brandy 38 = .ok (.iastore, 1) := by decide +kernel
theorem dX11_brandy_39 : decode cX11_brandy 39 = .ok (.aload_n 0, 1) := by decide +kernel
theorem dX11_brandy_40 : decode cX11_brandy 40 = .ok (.iconst 0, 1) := by decide +kernel
theorem dX11_brandy_41 : decode cX11_brandy 41 = .ok (.invokevirtual 82, 3) := by decide +kernel
theorem dX11_brandy_44 : decode cX11_brandy 44 = .ok (.ireturn, 1) := by decide +kernel
abbrev rmX11_brandy : Room := { frames := 1, cells := 0, slots := 0, locals := 25 }
set_option maxHeartbeats 4000000 in
set_option maxRecDepth 100000 in
theorem kX11_brandy (l : Launch) (D : va_G) (cy : Nat → ClassId) (h0 : Nat) (a0 : Nat → Nat) (s0 : Rc) (p1 : Int32) (p2 : Int32) (res : Int32 × Rc) (h : fX11_brandy p1 p2 s0 = some res) : CZ l D cy yX11_brandy wsX11_brandy rmX11_brandy [.ref h0, .int p1, .int p2] (flat [WX11 cy h0 a0 s0]) (flat [WX11 cy h0 a0 res.2]) res.1 := by
  refine CZ.of (cc := cX11_brandy) (maxL := 3) (by decide) rfl (Nat.le_of_ble_eq_true rfl) ?_
  intro p e s m args below meth c A QQ ls E hr
  obtain ⟨hx, hb, hml, hown, hts, hK, hN, hP, hD, hA, hl⟩ := E
  have hret : ∀ (pc : Nat) (H : Heap) (locs : List Loc) (ls : Array Slot) (u : Int32 × Rc), u = res → va_P D vwCl (flat [WX11 cy h0 a0 u.2]) H → va_D A (flat [WX11 cy h0 a0 u.2]) → va_S A s.heap H locs → isb u.1 = true → decode cX11_brandy pc = .ok (.ireturn, 1) → W p l e rmX11_brandy s m args below meth c H locs 0 0 QQ (F0 m pc ls [.int u.1]) := by
    intro pc H locs ls u hu hP hD hS hz hd; subst hu; exact hr pc H locs ls _ rfl hP hD hS hz hd
  clear hr
  have hl : lv_has ls 3 [(0, .ref h0), (1, .int p1), (2, .int p2)] := hl
  have hinX11 : ∀ w ∈ wsX110, w ∈ wsX11_brandy := fun _ h => List.mem_cons_of_mem _ (List.mem_append_right _ h)
  unfold fX11_brandy at h
  suffices key : ∀ (H : Heap) (locs : List Loc), va_P D vwCl (flat [WX11 cy h0 a0 s0]) H → va_S A s.heap H locs → W p l e rmX11_brandy s m args below meth c H locs 0 0 QQ (F0 m 0 ls []) from key _ _ hP va_S.rf
  clear hP
  intro H locs hP hS
  refine lv_aload_n hx hb dX11_brandy_0 rfl (lv_at hl 0 rfl) ?_
  refine lv_iload_n hx hb dX11_brandy_1 rfl (lv_at hl 1 rfl) ?_
  refine ca_z (w' := [WX11 cy h0 a0 s0]) (rn_V (As := [.int p1]) (rest := []) ⟨hx, hb, hml, hown, hts⟩ (kX11_isFarmer l D cy h0 a0 s0 p1 _ rfl H.size) (cwV 1 hts gX11_brandy_X11_isFarmer rfl rfl rfl (by decide +kernel) ⟨Nat.le_of_ble_eq_true rfl, Nat.le_of_ble_eq_true rfl⟩) hK hN hP hD [0] rfl rfl (ci := 11) (q0 := 0) rfl rfl rfl rfl hl.1 rfl (Nat.le_of_ble_eq_true rfl) dX11_brandy_2 ⟨Nat.le_refl 0, Nat.le_refl 0⟩) hP hD hS hA [0] ⟨rfl, rfl, rfl, rfl⟩ (fun b1 H locs hP hD hS => ?_)
  refine lv_if_eq (tgt := 20) hx hb dX11_brandy_5 (by decide) (fun c2 => ?_) (fun c2 => ?_)
  · replace h := (if_pos c2).symm.trans h
    refine lv_aload_n hx hb dX11_brandy_20 rfl (lv_at hl 0 rfl) ?_
    refine lv_iconst (v := 1) hx hb dX11_brandy_21 (by decide) ?_
    obtain ⟨r3, hr3, h⟩ := lt_elim h
    refine ca_z (w' := [WX11 cy h0 a0 r3.2]) (rn_V (As := [.int (1 : Int32)]) (rest := []) ⟨hx, hb, hml, hown, hts⟩ (kX11_is l D cy h0 a0 s0 (1 : Int32) r3 hr3.symm H.size) (cwV 1 hts gX11_brandy_X11_is rfl rfl rfl (by decide +kernel) ⟨Nat.le_of_ble_eq_true rfl, Nat.le_of_ble_eq_true rfl⟩) hK hN hP hD [0] rfl rfl (ci := 11) (q0 := 0) rfl rfl rfl rfl hl.1 rfl (Nat.le_of_ble_eq_true rfl) dX11_brandy_22 ⟨Nat.le_refl 0, Nat.le_refl 0⟩) hP hD hS hA [0] ⟨rfl, rfl, rfl, rfl⟩ (fun b4 H locs hP hD hS => ?_)
    exact hret 25 H locs ls (r3.1, r3.2) (Option.some.inj h) hP hD hS b4 dX11_brandy_25
  · replace h := (if_neg c2).symm.trans h
    refine lv_iload_n hx hb dX11_brandy_8 rfl (lv_at hl 2 rfl) ?_
    refine lv_i2l hx hb dX11_brandy_9 rfl ?_
    refine lv_lconst (v := 0) hx hb dX11_brandy_10 (by decide) ?_
    refine lv_ldc2 (v := 16) hx hb hown (hts (.constantLong RX11 294 (16)) (List.mem_of_getElem? (i := 1) rfl)) dX11_brandy_11 ?_
    refine ca_z (w' := [WX11 cy h0 a0 s0]) (rn_S (As := [.long p2.toInt64, .long (0 : Int64), .long (16 : Int64)]) (rest := []) ⟨hx, hb, hml, hown, hts⟩ (kX11_isFrom l D cy p2.toInt64 (0 : Int64) (16 : Int64) _ rfl H.size) (va_cwS 3 hts gX11_brandy_X11_isFrom rfl rfl rfl (by decide +kernel) ⟨Nat.le_of_ble_eq_true rfl, Nat.le_of_ble_eq_true rfl⟩) hK hN hP hD [] rfl rfl rfl hl.1 rfl (Nat.le_of_ble_eq_true rfl) dX11_brandy_14 ⟨Nat.le_refl 0, Nat.le_refl 0⟩) hP hD hS hA [] ⟨rfl, rfl, rfl, rfl⟩ (fun b5 H locs hP hD hS => ?_)
    refine lv_if_ne (tgt := 26) hx hb dX11_brandy_17 (by decide) (fun c6 => ?_) (fun c6 => ?_)
    · replace h := (if_neg c6).symm.trans h
      refine lv_aload_n hx hb dX11_brandy_26 rfl (lv_at hl 0 rfl) ?_
      refine va_get (D := D) (ci := 11) (v := .ref (a0 0)) (C := RX11) (T := TX11) (N := 38) hx hb hts hinX11 hown hK hP 0 rfl rfl 0 (by decide) (hts (.fieldLink RX11 7 "KneeBenchModel" "at" "[I") (List.mem_of_getElem? (i := 2) rfl)) (fun _ h9 => h9) rfl dX11_brandy_27 ?_
      refine lv_iconst (v := 0) hx hb dX11_brandy_30 (by decide) ?_
      refine lv_iload_n hx hb dX11_brandy_31 rfl (lv_at hl 1 rfl) ?_
      refine ca_i (w' := [WX11 cy h0 a0 s0]) (rn_S (As := [.int (0 : Int32), .int p1]) (rest := [.ref (a0 0)]) ⟨hx, hb, hml, hown, hts⟩ (kX11_farmerRow l D cy (0 : Int32) p1 _ rfl H.size) (va_cwS 2 hts gX11_brandy_X11_farmerRow rfl rfl rfl (by decide +kernel) ⟨Nat.le_of_ble_eq_true rfl, Nat.le_of_ble_eq_true rfl⟩) hK hN hP hD [] rfl rfl rfl hl.1 rfl (Nat.le_of_ble_eq_true rfl) dX11_brandy_32 ⟨Nat.le_refl 0, Nat.le_refl 0⟩) hP hD hS hA [] ⟨rfl, rfl, rfl, rfl⟩ (fun H locs hP hD hS => ?_)
      refine lv_iconst (v := 2) hx hb dX11_brandy_35 (by decide) ?_
      refine lv_iadd hx hb dX11_brandy_36 ?_
      refine lv_iload_n hx hb dX11_brandy_37 rfl (lv_at hl 2 rfl) ?_
      obtain ⟨g7, h⟩ := gd_elim h
      obtain ⟨s0_8, es, h⟩ := lt_elim h
      refine va_iast hx hb hK hP hD hS 1 1 rfl rfl (inb_in g7) dX11_brandy_38 (fun H locs hP hD hS => ?_)
      have hP : va_P D vwCl (flat [WX11 cy h0 a0 s0_8]) H := by rw [es]; exact hP
      have hD : va_D A (flat [WX11 cy h0 a0 s0_8]) := by rw [es]; exact hD
      clear es
      refine lv_aload_n hx hb dX11_brandy_39 rfl (lv_at hl 0 rfl) ?_
      refine lv_iconst (v := 0) hx hb dX11_brandy_40 (by decide) ?_
      obtain ⟨r9, hr9, h⟩ := lt_elim h
      refine ca_z (w' := [WX11 cy h0 a0 r9.2]) (rn_V (As := [.int (0 : Int32)]) (rest := []) ⟨hx, hb, hml, hown, hts⟩ (kX11_is l D cy h0 a0 s0_8 (0 : Int32) r9 hr9.symm H.size) (cwV 1 hts gX11_brandy_X11_is rfl rfl rfl (by decide +kernel) ⟨Nat.le_of_ble_eq_true rfl, Nat.le_of_ble_eq_true rfl⟩) hK hN hP hD [0] rfl rfl (ci := 11) (q0 := 0) rfl rfl rfl rfl hl.1 rfl (Nat.le_of_ble_eq_true rfl) dX11_brandy_41 ⟨Nat.le_refl 0, Nat.le_refl 0⟩) hP hD hS hA [0] ⟨rfl, rfl, rfl, rfl⟩ (fun b10 H locs hP hD hS => ?_)
      exact hret 44 H locs ls (r9.1, r9.2) (Option.some.inj h) hP hD hS b10 dX11_brandy_44
    · replace h := (if_pos c6).symm.trans h
      refine lv_aload_n hx hb dX11_brandy_20 rfl (lv_at hl 0 rfl) ?_
      refine lv_iconst (v := 1) hx hb dX11_brandy_21 (by decide) ?_
      obtain ⟨r11, hr11, h⟩ := lt_elim h
      refine ca_z (w' := [WX11 cy h0 a0 r11.2]) (rn_V (As := [.int (1 : Int32)]) (rest := []) ⟨hx, hb, hml, hown, hts⟩ (kX11_is l D cy h0 a0 s0 (1 : Int32) r11 hr11.symm H.size) (cwV 1 hts gX11_brandy_X11_is rfl rfl rfl (by decide +kernel) ⟨Nat.le_of_ble_eq_true rfl, Nat.le_of_ble_eq_true rfl⟩) hK hN hP hD [0] rfl rfl (ci := 11) (q0 := 0) rfl rfl rfl rfl hl.1 rfl (Nat.le_of_ble_eq_true rfl) dX11_brandy_22 ⟨Nat.le_refl 0, Nat.le_refl 0⟩) hP hD hS hA [0] ⟨rfl, rfl, rfl, rfl⟩ (fun b12 H locs hP hD hS => ?_)
      exact hret 25 H locs ls (r11.1, r11.2) (Option.some.inj h) hP hD hS b12 dX11_brandy_25
