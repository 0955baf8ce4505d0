set_option maxRecDepth 20000 in
theorem ggX11_inWords_J0_length_8abf5 : GoodIn wsX11_inWords wsJ0_length_8abf5 := goodIn_r _ [8, 9, 10, 11, 12, 7, 13, 14, 15] (by decide +kernel) (by decide +kernel)
set_option maxRecDepth 20000 in
theorem gX11_inWords_J0_length_8abf5 : GoodIn wsX11_inWords (wsV RX11 135 RJ0 yJ0_length_8abf5 wsJ0_length_8abf5) := goodIn_app (goodIn_of _ (by decide +kernel)) ggX11_inWords_J0_length_8abf5
set_option maxRecDepth 20000 in
theorem ggX11_inWords_J0_charAt_5068e : GoodIn wsX11_inWords wsJ0_charAt_5068e := goodIn_r _ [19, 9, 20, 21, 22, 7, 23, 14, 15, 24, 25, 26, 27, 28, 29, 30, 31, 32, 33, 34, 35, 36, 37, 38, 39, 40, 41, 42, 43, 44, 45, 46, 47, 48, 49, 50, 51, 52] (by decide +kernel) (by decide +kernel)
set_option maxRecDepth 20000 in
theorem gX11_inWords_J0_charAt_5068e : GoodIn wsX11_inWords (wsV RX11 141 RJ0 yJ0_charAt_5068e wsJ0_charAt_5068e) := goodIn_app (goodIn_of _ (by decide +kernel)) ggX11_inWords_J0_charAt_5068e
set_option maxRecDepth 20000 in
theorem ggX11_inWords_X11_byteAt : GoodIn wsX11_inWords wsX11_byteAt := goodIn_r _ [57, 58, 59, 60, 61, 62, 63, 64, 65, 66, 67, 68, 69, 70, 71, 72, 73, 74, 75, 76, 77, 78, 79, 80, 81, 82, 83, 84, 85, 86, 87, 88, 89, 90, 91, 92, 93, 94, 95, 96, 97] (by decide +kernel) (by decide +kernel)
set_option maxRecDepth 20000 in
theorem gX11_inWords_X11_byteAt : GoodIn wsX11_inWords (wsV RX11 111 RX11 yX11_byteAt wsX11_byteAt) := goodIn_app (goodIn_of _ (by decide +kernel)) ggX11_inWords_X11_byteAt
theorem dX11_inWords_0 : decode cX11_inWords 0 = .ok (.aload_n 0, 1) := by decide +kernel
theorem dX11_inWords_1 : decode cX11_inWords 1 = .ok (.getfield 120, 3) := by decide +kernel
theorem dX11_inWords_4 : decode cX11_inWords 4 = .ok (.iconst 2, 1) := by decide +kernel
theorem dX11_inWords_5 : decode cX11_inWords 5 = .ok (.if_icmp .eq 5, 3) := by decide +kernel
theorem dX11_inWords_8 : decode cX11_inWords 8 = .ok (.iconst (-1), 1) := by decide +kernel
theorem dX11_inWords_9 : decode cX11_inWords 9 = .ok (.ireturn, 1) := by decide +kernel
theorem dX11_inWords_10 : decode cX11_inWords 10 = .ok (.iconst 0, 1) := by decide +kernel
theorem dX11_inWords_11 : decode cX11_inWords 11 = .ok (.istore_n 2, 1) := by decide +kernel
theorem dX11_inWords_12 : decode cX11_inWords 12 = .ok (.iconst 1, 1) := by decide +kernel
theorem dX11_inWords_13 : decode cX11_inWords 13 = .ok (.istore_n 3, 1) := by decide +kernel
theorem dX11_inWords_14 : decode cX11_inWords 14 = .ok (.iload_n 3, 1) := by decide +kernel
theorem dX11_inWords_15 : decode cX11_inWords 15 = .ok (.aload_n 1, 1) := by decide +kernel
theorem dX11_inWords_16 : decode cX11_inWords 16 = .ok (.invokevirtual 135, 3) := by decide +kernel
theorem dX11_inWords_19 : decode cX11_inWords 19 = .ok (.if_icmp .ge 114, 3) := by decide +kernel
theorem dX11_inWords_22 : decode cX11_inWords 22 = .ok (.iload_n 3, 1) := by decide +kernel
theorem dX11_inWords_23 : decode cX11_inWords 23 = .ok (.istore 4, 2) := by decide +kernel
theorem dX11_inWords_25 : decode cX11_inWords 25 = .ok (.aload_n 1, 1) := by decide +kernel
theorem dX11_inWords_26 : decode cX11_inWords 26 = .ok (.iload 4, 2) := by decide +kernel
theorem dX11_inWords_28 : decode cX11_inWords 28 = .ok (.invokevirtual 141, 3) := by decide +kernel
theorem dX11_inWords_31 : decode cX11_inWords 31 = .ok (.bipush 32, 2) := by decide +kernel
theorem dX11_inWords_33 : decode cX11_inWords 33 = .ok (.if_icmp .eq 9, 3) := by decide +kernel
theorem dX11_inWords_36 : decode cX11_inWords 36 = .ok (.iinc 4 1, 3) := by decide +kernel
theorem dX11_inWords_39 : decode cX11_inWords 39 = .ok (.goto (-14), 3) := by decide +kernel
theorem dX11_inWords_42 : decode cX11_inWords 42 = .ok (.iload 4, 2) := by decide +kernel
theorem dX11_inWords_44 : decode cX11_inWords 44 = .ok (.iload_n 3, 1) := by decide +kernel
theorem dX11_inWords_45 : decode cX11_inWords 45 = .ok (.isub, 1) := by decide +kernel
theorem dX11_inWords_46 : decode cX11_inWords 46 = .ok (.aload_n 0, 1) := by decide +kernel
theorem dX11_inWords_47 : decode cX11_inWords 47 = .ok (.getfield 108, 3) := by decide +kernel
theorem dX11_inWords_50 : decode cX11_inWords 50 = .ok (.aload_n 0, 1) := by decide +kernel
theorem dX11_inWords_51 : decode cX11_inWords 51 = .ok (.getfield 114, 3) := by decide +kernel
theorem dX11_inWords_54 : decode cX11_inWords 54 = .ok (.isub, 1) := by decide +kernel
theorem dX11_inWords_55 : decode cX11_inWords 55 = .ok (.if_icmp .ne 7, 3) := by decide +kernel
theorem dX11_inWords_58 : decode cX11_inWords 58 = .ok (.iconst 1, 1) := by decide +kernel
theorem dX11_inWords_59 : decode cX11_inWords 59 = .ok (.goto 4, 3) := by decide +kernel
theorem dX11_inWords_62 : decode cX11_inWords 62 = .ok (.iconst 0, 1) := by decide +kernel
theorem dX11_inWords_63 : decode cX11_inWords 63 = .ok (.istore 5, 2) := by decide +kernel
theorem dX11_inWords_65 : decode cX11_inWords 65 = .ok (.iload_n 3, 1) := by decide +kernel
theorem dX11_inWords_66 : decode cX11_inWords 66 = .ok (.istore 6, 2) := by decide +kernel
theorem dX11_inWords_68 : decode cX11_inWords 68 = .ok (.iload 6, 2) := by decide +kernel
theorem dX11_inWords_70 : decode cX11_inWords 70 = .ok (.iload 4, 2) := by decide +kernel
theorem dX11_inWords_72 : decode cX11_inWords 72 = .ok (.if_icmp .ge 43, 3) := by decide +kernel
theorem dX11_inWords_75 : decode cX11_inWords 75 = .ok (.iload 5, 2) := by decide +kernel
theorem dX11_inWords_77 : decode cX11_inWords 77 = .ok (.ifCond .eq 38, 3) := by decide +kernel
theorem dX11_inWords_80 : decode cX11_inWords 80 = .ok (.aload_n 1, 1) := by decide +kernel
theorem dX11_inWords_81 : decode cX11_inWords 81 = .ok (.iload 6, 2) := by decide +kernel
theorem dX11_inWords_83 : decode cX11_inWords 83 = .ok (.invokevirtual 141, 3) := by decide +kernel
theorem dX11_inWords_86 : decode cX11_inWords 86 = .ok (.aload_n 0, 1) := by decide +kernel
theorem dX11_inWords_87 : decode cX11_inWords 87 = .ok (.aload_n 0, 1) := by decide +kernel
theorem dX11_inWords_88 : decode cX11_inWords 88 = .ok (.getfield 114, 3) := by decide +kernel
theorem dX11_inWords_91 : decode cX11_inWords 91 = .ok (.iload 6, 2) := by decide +kernel
theorem dX11_inWords_93 : decode cX11_inWords 93 = .ok (.iadd, 1) := by decide +kernel
theorem dX11_inWords_94 : decode cX11_inWords 94 = .ok (.iload_n 3, 1) := by decide +kernel
theorem dX11_inWords_95 : decode cX11_inWords 95 = .ok (.isub, 1) := by decide +kernel
theorem dX11_inWords_96 : decode cX11_inWords 96 = .ok (.invokevirtual 111, 3) := by decide +kernel
theorem dX11_inWords_99 : decode cX11_inWords 99 = .ok (.if_icmp .ne 7, 3) := by decide +kernel
theorem dX11_inWords_102 : decode cX11_inWords 102 = .ok (.iconst 1, 1) := by decide +kernel
theorem dX11_inWords_103 : decode cX11_inWords 103 = .ok (.goto 4, 3) := by decide +kernel
theorem dX11_inWords_106 : decode cX11_inWords 106 = .ok (.iconst 0, 1) := by decide +kernel
theorem dX11_inWords_107 : decode cX11_inWords 107 = .ok (.istore 5, 2) := by decide +kernel
theorem dX11_inWords_109 : decode cX11_inWords 109 = .ok (.iinc 6 1, 3) := by decide +kernel
theorem dX11_inWords_112 : decode cX11_inWords 112 = .ok (.goto (-44), 3) := by decide +kernel
theorem dX11_inWords_115 : decode cX11_inWords 115 = .ok (.iload 5, 2) := by decide +kernel
theorem dX11_inWords_117 : decode cX11_inWords 117 = .ok (.ifCond .eq 5, 3) := by decide +kernel
theorem dX11_inWords_120 : decode cX11_inWords 120 = .ok (.iload_n 2, 1) := by decide +kernel
theorem dX11_inWords_121 : decode cX11_inWords 121 = .ok (.ireturn, 1) := by decide +kernel
theorem dX11_inWords_122 : decode cX11_inWords 122 = .ok (.iinc 2 1, 3) := by decide +kernel
theorem dX11_inWords_125 : decode cX11_inWords 125 = .ok (.iload 4, 2) := by decide +kernel
theorem dX11_inWords_127 : decode cX11_inWords 127 = .ok (.iconst 1, 1) := by decide +kernel
theorem dX11_inWords_128 : decode cX11_inWords 128 = .ok (.iadd, 1) := by decide +kernel
theorem dX11_inWords_129 : decode cX11_inWords 129 = .ok (.istore_n 3, 1) := by decide +kernel
theorem dX11_inWords_130 : decode cX11_inWords 130 = .ok (.goto (-116), 3) := by decide +kernel
theorem dX11_inWords_133 : decode cX11_inWords 133 = .ok (.iconst (-1), 1) := by decide +kernel
theorem dX11_inWords_134 : decode cX11_inWords 134 = .ok (.ireturn, 1) := by decide +kernel
abbrev rmX11_inWords : Room := { frames := 4, cells := 0, slots := 0, locals := 85 }
set_option maxHeartbeats 4000000 in
set_option maxRecDepth 100000 in
theorem kX11_inWords (S : Nat → Nat) (l : Launch) (D : va_G) (cy : Nat → ClassId) (h0 : Nat) (a0 : Nat → Nat) (s0 : Rc) (res : Int32) (h : fX11_inWords s0 = some res) : CI2 S l D cy yX11_inWords wsX11_inWords rmX11_inWords [.ref h0, .ref (S 2)] (flat [WX11 cy h0 a0 s0]) (flat [WX11 cy h0 a0 s0]) res := by
  refine CI2.of (cc := cX11_inWords) (maxL := 7) (by decide) rfl (Nat.le_of_ble_eq_true rfl) ?_
  intro p e s m args below meth c A QQ ls E hX hr
  obtain ⟨hx, hb, hml, hown, hts, hK, hN, hP, hD, hA, hl⟩ := E
  have hret : ∀ (pc : Nat) (H : Heap) (locs : List Loc) (ls : Array Slot) (u : Int32), u = res → va_P D vwCl (flat [WX11 cy h0 a0 s0]) H → va_D A (flat [WX11 cy h0 a0 s0]) → va_S A s.heap H locs → decode cX11_inWords pc = .ok (.ireturn, 1) → W p l e rmX11_inWords s m args below meth c H locs 0 0 QQ (F0 m pc ls [.int u]) := by
    intro pc H locs ls u hu hP hD hS hd; subst hu; exact hr pc H locs ls _ rfl hP hD hS hd
  clear hr
  have hl : lv_has ls 7 [(0, .ref h0), (1, .ref (S 2))] := hl
  have hinX11 : ∀ w ∈ wsX110, w ∈ wsX11_inWords := fun _ h => List.mem_cons_of_mem _ (List.mem_append_right _ h)
  unfold fX11_inWords at h
  suffices key : ∀ (H : Heap) (locs : List Loc), va_P D vwCl (flat [WX11 cy h0 a0 s0]) H → va_S A s.heap H locs → W p l e rmX11_inWords s m args below meth c H locs 0 0 QQ (F0 m 0 ls []) from key _ _ hP va_S.rf
  clear hP
  intro H locs hP hS
  refine lv_aload_n hx hb dX11_inWords_0 rfl (lv_at hl 0 rfl) ?_
  refine va_get (D := D) (ci := 11) (v := .int (gi s0 12)) (C := RX11) (T := TX11) (N := 38) hx hb hts hinX11 hown hK hP 0 rfl rfl 12 (by decide) (hts (.fieldLink RX11 120 "KneeBenchModel" "token" "I") (List.mem_of_getElem? (i := 1) rfl)) (fun _ h9 => h9) rfl dX11_inWords_1 ?_
  refine lv_iconst (v := 2) hx hb dX11_inWords_4 (by decide) ?_
  refine lv_icmp_eq (tgt := 10) hx hb dX11_inWords_5 (by decide) (fun c1 => ?_) (fun c1 => ?_)
  · replace h := (if_pos c1).symm.trans h
    refine lv_iconst (v := 0) hx hb dX11_inWords_10 (by decide) ?_
    refine lv_istore_n (lv' := [(2, .int (0 : Int32)), (0, .ref h0), (1, .ref (S 2))]) hx hb dX11_inWords_11 rfl hl (by decide) rfl (fun ls hl => ?_)
    refine lv_iconst (v := 1) hx hb dX11_inWords_12 (by decide) ?_
    refine lv_istore_n (lv' := [(3, .int (1 : Int32)), (2, .int (0 : Int32)), (0, .ref h0), (1, .ref (S 2))]) hx hb dX11_inWords_13 rfl hl (by decide) rfl (fun ls hl => ?_)
    have L14 : ∀ (n : Nat) (q14 : Int32 × Int32) (o : (Int32) ⊕ (Unit)), loopO (fX11_inWords_L14 s0) n q14 = some o → ∀ (H : Heap) (locs : List Loc) (ls : Array Slot), lv_has ls 7 [(0, .ref h0), (1, .ref (S 2)), (2, .int q14.1), (3, .int q14.2)] → va_P D vwCl (flat [WX11 cy h0 a0 s0]) H → va_D A (flat [WX11 cy h0 a0 s0]) → va_S A s.heap H locs → ∀ (kk120 : ∀ v : Int32, o = (.inl v) → ∀ (H : Heap) (locs : List Loc) (ls : Array Slot), lv_has ls 7 [(2, .int v)] → va_P D vwCl (flat [WX11 cy h0 a0 s0]) H → va_D A (flat [WX11 cy h0 a0 s0]) → va_S A s.heap H locs → W p l e rmX11_inWords s m args below meth c H locs 0 0 QQ (F0 m 120 ls [])) (kk133 : ∀ v : Unit, o = (.inr v) → ∀ (H : Heap) (locs : List Loc) (ls : Array Slot), lv_has ls 7 [] → va_P D vwCl (flat [WX11 cy h0 a0 s0]) H → va_D A (flat [WX11 cy h0 a0 s0]) → va_S A s.heap H locs → W p l e rmX11_inWords s m args below meth c H locs 0 0 QQ (F0 m 133 ls [])), W p l e rmX11_inWords s m args below meth c H locs 0 0 QQ (F0 m 14 ls []) := by
      intro n
      induction n with
      | zero => intro q14 o h; exact absurd h (by rw [loopO_zero]; intro z; cases z)
      | succ n ih =>
        intro q14 o h H locs ls hl hP hD hS kk120 kk133
        obtain ⟨w, h, hgo, hst⟩ := loopO_elim h
        unfold fX11_inWords_L14 at h
        have J115 : ∀ (y115_4 : Int32) (y115_5 : Int32) (H : Heap) (locs : List Loc) (ls : Array Slot), lv_has ls 7 [(0, .ref h0), (1, .ref (S 2)), (2, .int q14.1), (4, .int y115_4), (5, .int y115_5)] → va_P D vwCl (flat [WX11 cy h0 a0 s0]) H → va_D A (flat [WX11 cy h0 a0 s0]) → va_S A s.heap H locs → fX11_inWords_J115 q14 y115_4 y115_5 = some w → W p l e rmX11_inWords s m args below meth c H locs 0 0 QQ (F0 m 115 ls []) := by
          intro y115_4 y115_5 H locs ls hl hP hD hS h
          unfold fX11_inWords_J115 at h
          refine lv_iload hx hb dX11_inWords_115 (lv_at hl 4 rfl) ?_
          refine lv_if_eq (tgt := 122) hx hb dX11_inWords_117 (by decide) (fun c2 => ?_) (fun c2 => ?_)
          · replace h := (if_pos c2).symm.trans h
            refine lv_iinc (v := (q14.1 + (1 : Int32))) (lv' := [(2, .int (q14.1 + (1 : Int32))), (0, .ref h0), (1, .ref (S 2)), (4, .int y115_4), (5, .int y115_5)]) hx hb dX11_inWords_122 hl (k := 2) rfl rfl (by decide) rfl (fun ls hl => ?_)
            refine lv_iload hx hb dX11_inWords_125 (lv_at hl 3 rfl) ?_
            refine lv_iconst (v := 1) hx hb dX11_inWords_127 (by decide) ?_
            refine lv_iadd hx hb dX11_inWords_128 ?_
            refine lv_topi (fun x3 ex3 => ?_)
            replace h := lt_use h x3 ex3
            refine lv_istore_n (lv' := [(3, .int x3), (2, .int (q14.1 + (1 : Int32))), (0, .ref h0), (1, .ref (S 2)), (4, .int y115_4), (5, .int y115_5)]) hx hb dX11_inWords_129 rfl hl (by decide) rfl (fun ls hl => ?_)
            refine lv_goto (tgt := 14) hx hb dX11_inWords_130 (by decide) ?_
            exact ih _ o (hgo _ (Option.some.inj h).symm) H locs ls (lv_sub hl [2, 3, 1, 0] rfl) hP hD hS kk120 kk133
          · replace h := (if_neg c2).symm.trans h
            have eo := hst _ (Option.some.inj h).symm
            exact kk120 _ eo.symm H locs ls (lv_sub hl [2] rfl) hP hD hS
        have J63 : ∀ (y63_4 : Int32) (z63_0 : Int32) (H : Heap) (locs : List Loc) (ls : Array Slot), lv_has ls 7 [(0, .ref h0), (1, .ref (S 2)), (2, .int q14.1), (3, .int q14.2), (4, .int y63_4)] → va_P D vwCl (flat [WX11 cy h0 a0 s0]) H → va_D A (flat [WX11 cy h0 a0 s0]) → va_S A s.heap H locs → fX11_inWords_J63 s0 q14 y63_4 z63_0 = some w → W p l e rmX11_inWords s m args below meth c H locs 0 0 QQ (F0 m 63 ls [.int z63_0]) := by
          intro y63_4 z63_0 H locs ls hl hP hD hS h
          unfold fX11_inWords_J63 at h
          refine lv_istore (lv' := [(5, .int z63_0), (0, .ref h0), (1, .ref (S 2)), (2, .int q14.1), (3, .int q14.2), (4, .int y63_4)]) hx hb dX11_inWords_63 hl (by decide) rfl (fun ls hl => ?_)
          refine lv_iload_n hx hb dX11_inWords_65 rfl (lv_at hl 4 rfl) ?_
          refine lv_istore (lv' := [(6, .int q14.2), (5, .int z63_0), (0, .ref h0), (1, .ref (S 2)), (2, .int q14.1), (3, .int q14.2), (4, .int y63_4)]) hx hb dX11_inWords_66 hl (by decide) rfl (fun ls hl => ?_)
          have L68 : ∀ (n : Nat) (q68 : Int32 × Int32) (o : Int32), loopO (fX11_inWords_L68 s0 q14 y63_4) n q68 = some o → ∀ (H : Heap) (locs : List Loc) (ls : Array Slot), lv_has ls 7 [(0, .ref h0), (1, .ref (S 2)), (2, .int q14.1), (3, .int q14.2), (4, .int y63_4), (5, .int q68.1), (6, .int q68.2)] → va_P D vwCl (flat [WX11 cy h0 a0 s0]) H → va_D A (flat [WX11 cy h0 a0 s0]) → va_S A s.heap H locs → ∀ (kk115 : ∀ (H : Heap) (locs : List Loc) (ls : Array Slot), lv_has ls 7 [(0, .ref h0), (1, .ref (S 2)), (2, .int q14.1), (4, .int y63_4), (5, .int o)] → va_P D vwCl (flat [WX11 cy h0 a0 s0]) H → va_D A (flat [WX11 cy h0 a0 s0]) → va_S A s.heap H locs → W p l e rmX11_inWords s m args below meth c H locs 0 0 QQ (F0 m 115 ls [])), W p l e rmX11_inWords s m args below meth c H locs 0 0 QQ (F0 m 68 ls []) := by
            intro n
            induction n with
            | zero => intro q68 o h; exact absurd h (by rw [loopO_zero]; intro z; cases z)
            | succ n ih =>
              intro q68 o h H locs ls hl hP hD hS kk115
              obtain ⟨w, h, hgo, hst⟩ := loopO_elim h
              unfold fX11_inWords_L68 at h
              refine lv_iload hx hb dX11_inWords_68 (lv_at hl 6 rfl) ?_
              refine lv_iload hx hb dX11_inWords_70 (lv_at hl 4 rfl) ?_
              refine lv_icmp_ge (tgt := 115) hx hb dX11_inWords_72 (by decide) (fun c4 => ?_) (fun c4 => ?_)
              · replace h := (if_pos c4).symm.trans h
                have eo := hst _ (Option.some.inj h).symm
                subst eo
                exact kk115 H locs ls (lv_sub hl [0, 1, 2, 4, 5] rfl) hP hD hS
              · replace h := (if_neg c4).symm.trans h
                refine lv_iload hx hb dX11_inWords_75 (lv_at hl 5 rfl) ?_
                refine lv_if_eq (tgt := 115) hx hb dX11_inWords_77 (by decide) (fun c5 => ?_) (fun c5 => ?_)
                · replace h := (if_pos c5).symm.trans h
                  have eo := hst _ (Option.some.inj h).symm
                  subst eo
                  exact kk115 H locs ls (lv_sub hl [0, 1, 2, 4, 5] rfl) hP hD hS
                · replace h := (if_neg c5).symm.trans h
                  refine lv_aload_n hx hb dX11_inWords_80 rfl (lv_at hl 1 rfl) ?_
                  refine lv_iload hx hb dX11_inWords_81 (lv_at hl 6 rfl) ?_
                  obtain ⟨g6, h⟩ := gd_elim h
                  refine ja_V (As := [.int q68.2]) (rest := []) ⟨hx, hb, hml, hown, hts⟩ (kJ0_charAt_5068e l (S 2) (S 3) 167 by1 (S 4) q68.2 (inb_nn g6) (inb_lt g6 (by decide)) (inb_in g6) (ch_1 g6)) (cwV 1 hts gX11_inWords_J0_charAt_5068e rfl rfl rfl (by decide +kernel) ⟨Nat.le_of_ble_eq_true rfl, Nat.le_of_ble_eq_true rfl⟩) hX.2.2.1 hX.2.2.2 hS hA rfl hl.1 rfl (Nat.le_of_ble_eq_true rfl) dX11_inWords_83 ⟨Nat.le_of_ble_eq_true rfl, Nat.le_of_ble_eq_true rfl⟩ (fun H locs hk hS => ?_)
                  replace hP := va_P_kept hP hk
                  refine lv_aload_n hx hb dX11_inWords_86 rfl (lv_at hl 0 rfl) ?_
                  refine lv_aload_n hx hb dX11_inWords_87 rfl (lv_at hl 0 rfl) ?_
                  refine va_get (D := D) (ci := 11) (v := .int (gi s0 13)) (C := RX11) (T := TX11) (N := 38) hx hb hts hinX11 hown hK hP 0 rfl rfl 13 (by decide) (hts (.fieldLink RX11 114 "KneeBenchModel" "from" "I") (List.mem_of_getElem? (i := 3) rfl)) (fun _ h9 => h9) rfl dX11_inWords_88 ?_
                  refine lv_iload hx hb dX11_inWords_91 (lv_at hl 6 rfl) ?_
                  refine lv_iadd hx hb dX11_inWords_93 ?_
                  refine lv_iload_n hx hb dX11_inWords_94 rfl (lv_at hl 3 rfl) ?_
                  refine lv_isub hx hb dX11_inWords_95 ?_
                  obtain ⟨r7, hr7, h⟩ := bd_elim h
                  refine ca_i (w' := [WX11 cy h0 a0 s0]) (rn_V (As := [.int (((gi s0 13) + q68.2) - q14.2)]) (rest := [.int (chv by1 q68.2)]) ⟨hx, hb, hml, hown, hts⟩ (kX11_byteAt l D cy h0 a0 s0 (((gi s0 13) + q68.2) - q14.2) r7 hr7 H.size) (cwV 1 hts gX11_inWords_X11_byteAt rfl rfl rfl (by decide +kernel) ⟨Nat.le_of_ble_eq_true rfl, Nat.le_of_ble_eq_true rfl⟩) hK hN hP hD [0] rfl rfl (ci := 11) (q0 := 0) rfl rfl rfl rfl hl.1 rfl (Nat.le_of_ble_eq_true rfl) dX11_inWords_96 ⟨Nat.le_refl 0, Nat.le_refl 0⟩) hP hD hS hA [0] ⟨rfl, rfl, rfl, rfl⟩ (fun H locs hP hD hS => ?_)
                  refine lv_icmp_ne (tgt := 106) hx hb dX11_inWords_99 (by decide) (fun c8 => ?_) (fun c8 => ?_)
                  · replace h := (if_neg c8).symm.trans h
                    refine lv_iconst (v := 0) hx hb dX11_inWords_106 (by decide) ?_
                    refine lv_istore (lv' := [(5, .int (0 : Int32)), (0, .ref h0), (1, .ref (S 2)), (2, .int q14.1), (3, .int q14.2), (4, .int y63_4), (6, .int q68.2)]) hx hb dX11_inWords_107 hl (by decide) rfl (fun ls hl => ?_)
                    refine lv_iinc (v := (q68.2 + (1 : Int32))) (lv' := [(6, .int (q68.2 + (1 : Int32))), (5, .int (0 : Int32)), (0, .ref h0), (1, .ref (S 2)), (2, .int q14.1), (3, .int q14.2), (4, .int y63_4)]) hx hb dX11_inWords_109 hl (k := 6) rfl rfl (by decide) rfl (fun ls hl => ?_)
                    refine lv_goto (tgt := 68) hx hb dX11_inWords_112 (by decide) ?_
                    exact ih _ o (hgo _ (Option.some.inj h).symm) H locs ls (lv_sub hl [2, 3, 4, 5, 6, 1, 0] rfl) hP hD hS kk115
                  · replace h := (if_pos c8).symm.trans h
                    refine lv_iconst (v := 1) hx hb dX11_inWords_102 (by decide) ?_
                    refine lv_goto (tgt := 107) hx hb dX11_inWords_103 (by decide) ?_
                    refine lv_istore (lv' := [(5, .int (1 : Int32)), (0, .ref h0), (1, .ref (S 2)), (2, .int q14.1), (3, .int q14.2), (4, .int y63_4), (6, .int q68.2)]) hx hb dX11_inWords_107 hl (by decide) rfl (fun ls hl => ?_)
                    refine lv_iinc (v := (q68.2 + (1 : Int32))) (lv' := [(6, .int (q68.2 + (1 : Int32))), (5, .int (1 : Int32)), (0, .ref h0), (1, .ref (S 2)), (2, .int q14.1), (3, .int q14.2), (4, .int y63_4)]) hx hb dX11_inWords_109 hl (k := 6) rfl rfl (by decide) rfl (fun ls hl => ?_)
                    refine lv_goto (tgt := 68) hx hb dX11_inWords_112 (by decide) ?_
                    exact ih _ o (hgo _ (Option.some.inj h).symm) H locs ls (lv_sub hl [2, 3, 4, 5, 6, 1, 0] rfl) hP hD hS kk115
          obtain ⟨o68, ho68, h⟩ := bd_elim h
          obtain ⟨n68, hn68⟩ := loopF_some ho68
          refine L68 n68 _ o68 hn68 H locs ls (lv_sub hl [2, 3, 4, 5, 6, 1, 0] rfl) hP hD hS (fun H locs ls hl hP hD hS => ?_)
          exact J115 y63_4 o68 H locs ls (lv_sub hl [0, 1, 2, 3, 4] rfl) hP hD hS h
        refine lv_iload_n hx hb dX11_inWords_14 rfl (lv_at hl 3 rfl) ?_
        refine lv_aload_n hx hb dX11_inWords_15 rfl (lv_at hl 1 rfl) ?_
        refine ja_V (As := []) (rest := [.int q14.2]) ⟨hx, hb, hml, hown, hts⟩ (kJ0_length_8abf5 l (S 2) (S 3) 167 by1 (S 4) 167 (by decide)) (cwV 0 hts gX11_inWords_J0_length_8abf5 rfl rfl rfl (by decide +kernel) ⟨Nat.le_of_ble_eq_true rfl, Nat.le_of_ble_eq_true rfl⟩) hX.2.2.1 hX.2.2.2 hS hA rfl hl.1 rfl (Nat.le_of_ble_eq_true rfl) dX11_inWords_16 ⟨Nat.le_of_ble_eq_true rfl, Nat.le_of_ble_eq_true rfl⟩ (fun H locs hk hS => ?_)
        replace hP := va_P_kept hP hk
        refine lv_icmp_ge (tgt := 133) hx hb dX11_inWords_19 (by decide) (fun c9 => ?_) (fun c9 => ?_)
        · replace h := (if_pos c9).symm.trans h
          have eo := hst _ (Option.some.inj h).symm
          exact kk133 _ eo.symm H locs ls (lv_sub hl [] rfl) hP hD hS
        · replace h := (if_neg c9).symm.trans h
          refine lv_iload_n hx hb dX11_inWords_22 rfl (lv_at hl 3 rfl) ?_
          refine lv_istore (lv' := [(4, .int q14.2), (0, .ref h0), (1, .ref (S 2)), (2, .int q14.1), (3, .int q14.2)]) hx hb dX11_inWords_23 hl (by decide) rfl (fun ls hl => ?_)
          have L25 : ∀ (n : Nat) (q25 : Int32) (o : Int32), loopO (fX11_inWords_L25) n q25 = some o → ∀ (H : Heap) (locs : List Loc) (ls : Array Slot), lv_has ls 7 [(0, .ref h0), (1, .ref (S 2)), (2, .int q14.1), (3, .int q14.2), (4, .int q25)] → va_P D vwCl (flat [WX11 cy h0 a0 s0]) H → va_D A (flat [WX11 cy h0 a0 s0]) → va_S A s.heap H locs → ∀ (kk42 : ∀ (H : Heap) (locs : List Loc) (ls : Array Slot), lv_has ls 7 [(0, .ref h0), (1, .ref (S 2)), (2, .int q14.1), (3, .int q14.2), (4, .int o)] → va_P D vwCl (flat [WX11 cy h0 a0 s0]) H → va_D A (flat [WX11 cy h0 a0 s0]) → va_S A s.heap H locs → W p l e rmX11_inWords s m args below meth c H locs 0 0 QQ (F0 m 42 ls [])), W p l e rmX11_inWords s m args below meth c H locs 0 0 QQ (F0 m 25 ls []) := by
            intro n
            induction n with
            | zero => intro q25 o h; exact absurd h (by rw [loopO_zero]; intro z; cases z)
            | succ n ih =>
              intro q25 o h H locs ls hl hP hD hS kk42
              obtain ⟨w, h, hgo, hst⟩ := loopO_elim h
              unfold fX11_inWords_L25 at h
              refine lv_aload_n hx hb dX11_inWords_25 rfl (lv_at hl 1 rfl) ?_
              refine lv_iload hx hb dX11_inWords_26 (lv_at hl 4 rfl) ?_
              obtain ⟨g10, h⟩ := gd_elim h
              refine ja_V (As := [.int q25]) (rest := []) ⟨hx, hb, hml, hown, hts⟩ (kJ0_charAt_5068e l (S 2) (S 3) 167 by1 (S 4) q25 (inb_nn g10) (inb_lt g10 (by decide)) (inb_in g10) (ch_1 g10)) (cwV 1 hts gX11_inWords_J0_charAt_5068e rfl rfl rfl (by decide +kernel) ⟨Nat.le_of_ble_eq_true rfl, Nat.le_of_ble_eq_true rfl⟩) hX.2.2.1 hX.2.2.2 hS hA rfl hl.1 rfl (Nat.le_of_ble_eq_true rfl) dX11_inWords_28 ⟨Nat.le_of_ble_eq_true rfl, Nat.le_of_ble_eq_true rfl⟩ (fun H locs hk hS => ?_)
              replace hP := va_P_kept hP hk
              refine lv_bipush (v := 32) hx hb dX11_inWords_31 (by decide) ?_
              refine lv_icmp_eq (tgt := 42) hx hb dX11_inWords_33 (by decide) (fun c11 => ?_) (fun c11 => ?_)
              · replace h := (if_pos c11).symm.trans h
                have eo := hst _ (Option.some.inj h).symm
                subst eo
                exact kk42 H locs ls (lv_sub hl [0, 1, 2, 3, 4] rfl) hP hD hS
              · replace h := (if_neg c11).symm.trans h
                refine lv_iinc (v := (q25 + (1 : Int32))) (lv' := [(4, .int (q25 + (1 : Int32))), (0, .ref h0), (1, .ref (S 2)), (2, .int q14.1), (3, .int q14.2)]) hx hb dX11_inWords_36 hl (k := 4) rfl rfl (by decide) rfl (fun ls hl => ?_)
                refine lv_goto (tgt := 25) hx hb dX11_inWords_39 (by decide) ?_
                exact ih _ o (hgo _ (Option.some.inj h).symm) H locs ls (lv_sub hl [1, 2, 3, 4, 0] rfl) hP hD hS kk42
          obtain ⟨o25, ho25, h⟩ := bd_elim h
          obtain ⟨n25, hn25⟩ := loopF_some ho25
          refine L25 n25 _ o25 hn25 H locs ls (lv_sub hl [1, 2, 3, 4, 0] rfl) hP hD hS (fun H locs ls hl hP hD hS => ?_)
          refine lv_iload hx hb dX11_inWords_42 (lv_at hl 4 rfl) ?_
          refine lv_iload_n hx hb dX11_inWords_44 rfl (lv_at hl 3 rfl) ?_
          refine lv_isub hx hb dX11_inWords_45 ?_
          refine lv_aload_n hx hb dX11_inWords_46 rfl (lv_at hl 0 rfl) ?_
          refine va_get (D := D) (ci := 11) (v := .int (gi s0 14)) (C := RX11) (T := TX11) (N := 38) hx hb hts hinX11 hown hK hP 0 rfl rfl 14 (by decide) (hts (.fieldLink RX11 108 "KneeBenchModel" "end" "I") (List.mem_of_getElem? (i := 2) rfl)) (fun _ h9 => h9) rfl dX11_inWords_47 ?_
          refine lv_aload_n hx hb dX11_inWords_50 rfl (lv_at hl 0 rfl) ?_
          refine va_get (D := D) (ci := 11) (v := .int (gi s0 13)) (C := RX11) (T := TX11) (N := 38) hx hb hts hinX11 hown hK hP 0 rfl rfl 13 (by decide) (hts (.fieldLink RX11 114 "KneeBenchModel" "from" "I") (List.mem_of_getElem? (i := 3) rfl)) (fun _ h9 => h9) rfl dX11_inWords_51 ?_
          refine lv_isub hx hb dX11_inWords_54 ?_
          refine lv_icmp_ne (tgt := 62) hx hb dX11_inWords_55 (by decide) (fun c12 => ?_) (fun c12 => ?_)
          · replace h := (if_neg c12).symm.trans h
            refine lv_iconst (v := 0) hx hb dX11_inWords_62 (by decide) ?_
            exact J63 o25 (0 : Int32) H locs ls (lv_sub hl [0, 1, 2, 3, 4] rfl) hP hD hS h
          · replace h := (if_pos c12).symm.trans h
            refine lv_iconst (v := 1) hx hb dX11_inWords_58 (by decide) ?_
            refine lv_goto (tgt := 63) hx hb dX11_inWords_59 (by decide) ?_
            exact J63 o25 (1 : Int32) H locs ls (lv_sub hl [0, 1, 2, 3, 4] rfl) hP hD hS h
    obtain ⟨o14, ho14, h⟩ := bd_elim h
    obtain ⟨n14, hn14⟩ := loopF_some ho14
    refine L14 n14 _ o14 hn14 H locs ls (lv_sub hl [2, 3, 1, 0] rfl) hP hD hS (fun o14a eo H locs ls hl hP hD hS => ?_) (fun o14b eo H locs ls hl hP hD hS => ?_)
    · subst eo
      rw [Sum.elim_inl] at h
      refine lv_iload_n hx hb dX11_inWords_120 rfl (lv_at hl 0 rfl) ?_
      exact hret 121 H locs ls o14a (Option.some.inj h) hP hD hS dX11_inWords_121
    · subst eo
      rw [Sum.elim_inr] at h
      refine lv_iconst (v := -1) hx hb dX11_inWords_133 (by decide) ?_
      exact hret 134 H locs ls (-1 : Int32) (Option.some.inj h) hP hD hS dX11_inWords_134
  · replace h := (if_neg c1).symm.trans h
    refine lv_iconst (v := -1) hx hb dX11_inWords_8 (by decide) ?_
    exact hret 9 H locs ls (-1 : Int32) (Option.some.inj h) hP hD hS dX11_inWords_9
set_option maxRecDepth 20000 in
theorem ggX11_isName_X11_inWords : GoodIn wsX11_isName wsX11_inWords := goodIn_r _ [8, 1, 2, 3, 9, 10, 11, 12, 13, 14, 15, 16, 17, 18, 19, 20, 21, 22, 23, 24, 25, 26, 27, 28, 29, 30, 31, 32, 33, 34, 35, 36, 37, 38, 39, 40, 41, 42, 43, 44, 45, 46, 47, 48, 49, 50, 51, 52, 53, 54, 55, 56, 57, 58, 59, 60, 7, 61, 62, 63, 64, 65, 66, 67, 68, 69, 70, 71, 72, 73, 74, 75, 76, 77, 78, 79, 80, 81, 82, 83, 84, 85, 86, 87, 88, 89, 90, 91, 92, 93, 94, 95, 96, 97, 98, 99, 100, 101] (by decide +kernel) (by decide +kernel)
set_option maxRecDepth 20000 in
theorem gX11_isName_X11_inWords : GoodIn wsX11_isName (wsV RX11 160 RX11 yX11_inWords wsX11_inWords) := goodIn_app (goodIn_of _ (by decide +kernel)) ggX11_isName_X11_inWords
theorem dX11_isName_0 : decode cX11_isName 0 = .ok (.aload_n 0, 1) := by decide +kernel
theorem dX11_isName_1 : decode cX11_isName 1 = .ok (.getfield 120, 3) := by decide +kernel
theorem dX11_isName_4 : decode cX11_isName 4 = .ok (.iconst 2, 1) := by decide +kernel
theorem dX11_isName_5 : decode cX11_isName 5 = .ok (.if_icmp .ne 30, 3) := by decide +kernel
theorem dX11_isName_8 : decode cX11_isName 8 = .ok (.aload_n 0, 1) := by decide +kernel
theorem dX11_isName_9 : decode cX11_isName 9 = .ok (.getfield 108, 3) := by decide +kernel
theorem dX11_isName_12 : decode cX11_isName 12 = .ok (.aload_n 0, 1) := by decide +kernel
theorem dX11_isName_13 : decode cX11_isName 13 = .ok (.getfield 114, 3) := by decide +kernel
theorem dX11_isName_16 : decode cX11_isName 16 = .ok (.isub, 1) := by decide +kernel
theorem dX11_isName_17 : decode cX11_isName 17 = .ok (.bipush 8, 2) := by decide +kernel
theorem dX11_isName_19 : decode cX11_isName 19 = .ok (.if_icmp .gt 16, 3) := by decide +kernel
theorem dX11_isName_22 : decode cX11_isName 22 = .ok (.aload_n 0, 1) := by decide +kernel
theorem dX11_isName_23 : decode cX11_isName 23 = .ok (.aload_n 1, 1) := by decide +kernel
theorem dX11_isName_24 : decode cX11_isName 24 = .ok (.invokevirtual 160, 3) := by decide +kernel
theorem dX11_isName_27 : decode cX11_isName 27 = .ok (.iconst (-1), 1) := by decide +kernel
theorem dX11_isName_28 : decode cX11_isName 28 = .ok (.if_icmp .ne 7, 3) := by decide +kernel
theorem dX11_isName_31 : decode cX11_isName 31 = .ok (.iconst 1, 1) := by decide +kernel
theorem dX11_isName_32 : decode cX11_isName 32 = .ok (.goto 4, 3) := by decide +kernel
theorem dX11_isName_35 : decode cX11_isName 35 = .ok (.iconst 0, 1) := by decide +kernel
theorem dX11_isName_36 : decode cX11_isName 36 = .ok (.ireturn, 1) := by decide +kernel
abbrev rmX11_isName : Room := { frames := 5, cells := 0, slots := 0, locals := 111 }
set_option maxHeartbeats 4000000 in
set_option maxRecDepth 100000 in
theorem kX11_isName (S : Nat → Nat) (l : Launch) (D : va_G) (cy : Nat → ClassId) (h0 : Nat) (a0 : Nat → Nat) (s0 : Rc) (res : Int32) (h : fX11_isName s0 = some res) : CZ2 S l D cy yX11_isName wsX11_isName rmX11_isName [.ref h0, .ref (S 2)] (flat [WX11 cy h0 a0 s0]) (flat [WX11 cy h0 a0 s0]) res := by
  refine CZ2.of (cc := cX11_isName) (maxL := 2) (by decide) rfl (Nat.le_of_ble_eq_true rfl) ?_
  intro p e s m args below meth c A QQ ls E hX hr
  obtain ⟨hx, hb, hml, hown, hts, hK, hN, hP, hD, hA, hl⟩ := E
  have hret : ∀ (pc : Nat) (H : Heap) (locs : List Loc) (ls : Array Slot) (u : Int32), u = res → va_P D vwCl (flat [WX11 cy h0 a0 s0]) H → va_D A (flat [WX11 cy h0 a0 s0]) → va_S A s.heap H locs → isb u = true → decode cX11_isName pc = .ok (.ireturn, 1) → W p l e rmX11_isName s m args below meth c H locs 0 0 QQ (F0 m pc ls [.int u]) := by
    intro pc H locs ls u hu hP hD hS hz hd; subst hu; exact hr pc H locs ls _ rfl hP hD hS hz hd
  clear hr
  have hl : lv_has ls 2 [(0, .ref h0), (1, .ref (S 2))] := hl
  have hinX11 : ∀ w ∈ wsX110, w ∈ wsX11_isName := fun _ h => List.mem_cons_of_mem _ (List.mem_append_right _ h)
  unfold fX11_isName at h
  suffices key : ∀ (H : Heap) (locs : List Loc), va_P D vwCl (flat [WX11 cy h0 a0 s0]) H → va_S A s.heap H locs → W p l e rmX11_isName s m args below meth c H locs 0 0 QQ (F0 m 0 ls []) from key _ _ hP va_S.rf
  clear hP
  intro H locs hP hS
  refine lv_aload_n hx hb dX11_isName_0 rfl (lv_at hl 0 rfl) ?_
  refine va_get (D := D) (ci := 11) (v := .int (gi s0 12)) (C := RX11) (T := TX11) (N := 38) hx hb hts hinX11 hown hK hP 0 rfl rfl 12 (by decide) (hts (.fieldLink RX11 120 "KneeBenchModel" "token" "I") (List.mem_of_getElem? (i := 1) rfl)) (fun _ h9 => h9) rfl dX11_isName_1 ?_
  refine lv_iconst (v := 2) hx hb dX11_isName_4 (by decide) ?_
  refine lv_icmp_ne (tgt := 35) hx hb dX11_isName_5 (by decide) (fun c1 => ?_) (fun c1 => ?_)
  · replace h := (if_neg c1).symm.trans h
    refine lv_iconst (v := 0) hx hb dX11_isName_35 (by decide) ?_
    exact hret 36 H locs ls (0 : Int32) (Option.some.inj h) hP hD hS (show isb (0 : Int32) = true by decide) dX11_isName_36
  · replace h := (if_pos c1).symm.trans h
    refine lv_aload_n hx hb dX11_isName_8 rfl (lv_at hl 0 rfl) ?_
    refine va_get (D := D) (ci := 11) (v := .int (gi s0 14)) (C := RX11) (T := TX11) (N := 38) hx hb hts hinX11 hown hK hP 0 rfl rfl 14 (by decide) (hts (.fieldLink RX11 108 "KneeBenchModel" "end" "I") (List.mem_of_getElem? (i := 2) rfl)) (fun _ h9 => h9) rfl dX11_isName_9 ?_
    refine lv_aload_n hx hb dX11_isName_12 rfl (lv_at hl 0 rfl) ?_
    refine va_get (D := D) (ci := 11) (v := .int (gi s0 13)) (C := RX11) (T := TX11) (N := 38) hx hb hts hinX11 hown hK hP 0 rfl rfl 13 (by decide) (hts (.fieldLink RX11 114 "KneeBenchModel" "from" "I") (List.mem_of_getElem? (i := 3) rfl)) (fun _ h9 => h9) rfl dX11_isName_13 ?_
    refine lv_isub hx hb dX11_isName_16 ?_
    refine lv_bipush (v := 8) hx hb dX11_isName_17 (by decide) ?_
    refine lv_icmp_gt (tgt := 35) hx hb dX11_isName_19 (by decide) (fun c2 => ?_) (fun c2 => ?_)
    · replace h := (if_pos c2).symm.trans h
      refine lv_iconst (v := 0) hx hb dX11_isName_35 (by decide) ?_
      exact hret 36 H locs ls (0 : Int32) (Option.some.inj h) hP hD hS (show isb (0 : Int32) = true by decide) dX11_isName_36
    · replace h := (if_neg c2).symm.trans h
      refine lv_aload_n hx hb dX11_isName_22 rfl (lv_at hl 0 rfl) ?_
      refine lv_aload_n hx hb dX11_isName_23 rfl (lv_at hl 1 rfl) ?_
      obtain ⟨r3, hr3, h⟩ := bd_elim h
      refine ca_i (w' := [WX11 cy h0 a0 s0]) (rn_V2 (As := [.ref (S 2)]) (rest := []) ⟨hx, hb, hml, hown, hts⟩ (kX11_inWords S l D cy h0 a0 s0 r3 hr3 H.size) (cwV 1 hts gX11_isName_X11_inWords rfl rfl rfl (by decide +kernel) ⟨Nat.le_of_ble_eq_true rfl, Nat.le_of_ble_eq_true rfl⟩) hK hN hX hP hD hS hA [0] rfl rfl (ci := 11) (q0 := 0) rfl rfl rfl rfl hl.1 rfl (Nat.le_of_ble_eq_true rfl) dX11_isName_24 ⟨Nat.le_refl 0, Nat.le_refl 0⟩) hP hD hS hA [0] ⟨rfl, rfl, rfl, rfl⟩ (fun H locs hP hD hS => ?_)
      refine lv_iconst (v := -1) hx hb dX11_isName_27 (by decide) ?_
      refine lv_icmp_ne (tgt := 35) hx hb dX11_isName_28 (by decide) (fun c4 => ?_) (fun c4 => ?_)
      · replace h := (if_neg c4).symm.trans h
        refine lv_iconst (v := 0) hx hb dX11_isName_35 (by decide) ?_
        exact hret 36 H locs ls (0 : Int32) (Option.some.inj h) hP hD hS (show isb (0 : Int32) = true by decide) dX11_isName_36
      · replace h := (if_pos c4).symm.trans h
        refine lv_iconst (v := 1) hx hb dX11_isName_31 (by decide) ?_
        refine lv_goto (tgt := 36) hx hb dX11_isName_32 (by decide) ?_
        exact hret 36 H locs ls (1 : Int32) (Option.some.inj h) hP hD hS (show isb (1 : Int32) = true by decide) dX11_isName_36
set_option maxRecDepth 20000 in
theorem ggX11_oldOne_X11_isName : GoodIn wsX11_oldOne wsX11_isName := goodIn_r _ [6, 7, 8, 9, 10, 11, 12, 5, 13, 14, 15, 16, 17, 18, 19, 20, 21, 22, 23, 24, 25, 26, 27, 28, 29, 30, 31, 32, 33, 34, 35, 36, 37, 38, 39, 40, 41, 42, 43, 44, 45, 46, 47, 48, 49, 50, 51, 52, 53, 54, 55, 56, 57, 58, 59, 60, 61, 62, 63, 64, 65, 66, 67, 68, 100, 101, 102, 103, 104, 105, 106, 107, 108, 109, 110, 111, 112, 113, 114, 115, 116, 117, 118, 119, 120, 121, 122, 123, 124, 125, 126, 127, 128, 129, 130, 131, 132, 133, 134, 135, 136, 137] (by decide +kernel) (by decide +kernel)
set_option maxRecDepth 20000 in
theorem gX11_oldOne_X11_isName : GoodIn wsX11_oldOne (wsV RX11 170 RX11 yX11_isName wsX11_isName) := goodIn_app (goodIn_of _ (by decide +kernel)) ggX11_oldOne_X11_isName
set_option maxRecDepth 20000 in
theorem ggX11_oldOne_X11_fails : GoodIn wsX11_oldOne wsX11_fails := goodIn_r _ [72, 73, 7, 9, 74, 100, 101, 102, 103, 104, 105, 106, 107, 108, 109, 110, 111, 112, 113, 114, 115, 116, 117, 118, 119, 120, 121, 122, 123, 124, 125, 126, 127, 128, 129, 130, 131, 132, 133, 134, 135, 136, 137] (by decide +kernel) (by decide +kernel)
set_option maxRecDepth 20000 in
theorem gX11_oldOne_X11_fails : GoodIn wsX11_oldOne (wsV RX11 157 RX11 yX11_fails wsX11_fails) := goodIn_app (goodIn_of _ (by decide +kernel)) ggX11_oldOne_X11_fails
set_option maxRecDepth 20000 in
theorem ggX11_oldOne_X11_findHere : GoodIn wsX11_oldOne wsX11_findHere := goodIn_r _ [78, 79, 80, 81, 82, 5, 83, 9, 8, 63, 64, 65, 66, 67, 68, 100, 101, 102, 103, 104, 105, 106, 107, 108, 109, 110, 111, 112, 113, 114, 115, 116, 117, 118, 119, 120, 121, 122, 123, 124, 125, 126, 127, 128, 129, 130, 131, 132, 133, 134, 135, 136, 137] (by decide +kernel) (by decide +kernel)
set_option maxRecDepth 20000 in
theorem gX11_oldOne_X11_findHere : GoodIn wsX11_oldOne (wsV RX11 174 RX11 yX11_findHere wsX11_findHere) := goodIn_app (goodIn_of _ (by decide +kernel)) ggX11_oldOne_X11_findHere
set_option maxRecDepth 20000 in
theorem ggX11_oldOne_X11_ahead : GoodIn wsX11_oldOne wsX11_ahead := goodIn_r _ [87, 8, 9, 88, 7, 89, 90, 91, 92, 93, 63, 64, 65, 5, 66, 67, 68, 94, 95, 96, 97, 98, 99, 100, 101, 102, 103, 104, 105, 106, 107, 108, 109, 110, 111, 112, 113, 114, 115, 116, 117, 118, 119, 120, 121, 122, 123, 124, 125, 126, 127, 128, 129, 130, 131, 132, 133, 134, 135, 136, 137] (by decide +kernel) (by decide +kernel)
set_option maxRecDepth 20000 in
theorem gX11_oldOne_X11_ahead : GoodIn wsX11_oldOne (wsV RX11 151 RX11 yX11_ahead wsX11_ahead) := goodIn_app (goodIn_of _ (by decide +kernel)) ggX11_oldOne_X11_ahead
theorem dX11_oldOne_0 : decode cX11_oldOne 0 = .ok (.aload_n 0, 1) := by decide +kernel
theorem dX11_oldOne_1 : decode cX11_oldOne 1 = .ok (.ldc 168, 2) := by decide +kernel
theorem dX11_oldOne_3 : decode cX11_oldOne 3 = .ok (.invokevirtual 170, 3) := by decide +kernel
theorem dX11_oldOne_6 : decode cX11_oldOne 6 = .ok (.ifCond .ne 9, 3) := by decide +kernel
theorem dX11_oldOne_9 : decode cX11_oldOne 9 = .ok (.aload_n 0, 1) := by decide +kernel
theorem dX11_oldOne_10 : decode cX11_oldOne 10 = .ok (.iconst 2, 1) := by decide +kernel
theorem dX11_oldOne_11 : decode cX11_oldOne 11 = .ok (.invokevirtual 157, 3) := by decide +kernel
theorem dX11_oldOne_14 : decode cX11_oldOne 14 = .ok (.ireturn, 1) := by decide +kernel
theorem dX11_oldOne_15 : decode cX11_oldOne 15 = .ok (.aload_n 0, 1) := by decide +kernel
theorem dX11_oldOne_16 : decode cX11_oldOne 16 = .ok (.getfield 7, 3) := by decide +kernel
theorem dX11_oldOne_19 : decode cX11_oldOne 19 = .ok (.iload_n 3, 1) := by decide +kernel
theorem dX11_oldOne_20 : decode cX11_oldOne 20 = .ok (.aload_n 0, 1) := by decide +kernel
theorem dX11_oldOne_21 : decode cX11_oldOne 21 = .ok (.iload_n 1, 1) := by decide +kernel
theorem dX11_oldOne_22 : decode cX11_oldOne 22 = .ok (.iload_n 2, 1) := by decide +kernel
theorem dX11_oldOne_23 : decode cX11_oldOne 23 = .ok (.invokevirtual 174, 3) := by decide +kernel
theorem dX11_oldOne_26 : decode cX11_oldOne 26 = .ok (.iastore, 1) := by decide +kernel
theorem dX11_oldOne_27 : decode cX11_oldOne 27 = .ok (.aload_n 0, 1) := by decide +kernel
theorem dX11_oldOne_28 : decode cX11_oldOne 28 = .ok (.getfield 7, 3) := by decide +kernel
theorem dX11_oldOne_31 : decode cX11_oldOne 31 = .ok (.iload_n 3, 1) := by decide +kernel
theorem dX11_oldOne_32 : decode cX11_oldOne 32 = .ok (.iaload, 1) := by decide +kernel
theorem dX11_oldOne_33 : decode cX11_oldOne 33 = .ok (.iconst (-1), 1) := by decide +kernel
theorem dX11_oldOne_34 : decode cX11_oldOne 34 = .ok (.if_icmp .ne 9, 3) := by decide +kernel
theorem dX11_oldOne_37 : decode cX11_oldOne 37 = .ok (.aload_n 0, 1) := by decide +kernel
theorem dX11_oldOne_38 : decode cX11_oldOne 38 = .ok (.iconst 3, 1) := by decide +kernel
theorem dX11_oldOne_39 : decode cX11_oldOne 39 = .ok (.invokevirtual 157, 3) := by decide +kernel
theorem dX11_oldOne_42 : decode cX11_oldOne 42 = .ok (.ireturn, 1) := by decide +kernel
theorem dX11_oldOne_43 : decode cX11_oldOne 43 = .ok (.aload_n 0, 1) := by decide +kernel
theorem dX11_oldOne_44 : decode cX11_oldOne 44 = .ok (.invokevirtual 151, 3) := by decide +kernel
theorem dX11_oldOne_47 : decode cX11_oldOne 47 = .ok (.iconst 1, 1) := by decide +kernel
theorem dX11_oldOne_48 : decode cX11_oldOne 48 = .ok (.ireturn, 1) := by decide +kernel
abbrev rmX11_oldOne : Room := { frames := 6, cells := 0, slots := 0, locals := 132 }
set_option maxHeartbeats 4000000 in
set_option maxRecDepth 100000 in
theorem kX11_oldOne (S : Nat → Nat) (l : Launch) (D : va_G) (cy : Nat → ClassId) (h0 : Nat) (a0 : Nat → Nat) (s0 : Rc) (p1 : Int32) (p2 : Int32) (p3 : Int32) (res : Int32 × Rc) (h : fX11_oldOne p1 p2 p3 s0 = some res) : CZ2 S l D cy yX11_oldOne wsX11_oldOne rmX11_oldOne [.ref h0, .int p1, .int p2, .int p3] (flat [WX11 cy h0 a0 s0]) (flat [WX11 cy h0 a0 res.2]) res.1 := by
  refine CZ2.of (cc := cX11_oldOne) (maxL := 4) (by decide) rfl (Nat.le_of_ble_eq_true rfl) ?_
  intro p e s m args below meth c A QQ ls E hX hr
  obtain ⟨hx, hb, hml, hown, hts, hK, hN, hP, hD, hA, hl⟩ := E
  have hret : ∀ (pc : Nat) (H : Heap) (locs : List Loc) (ls : Array Slot) (u : Int32 × Rc), u = res → va_P D vwCl (flat [WX11 cy h0 a0 u.2]) H → va_D A (flat [WX11 cy h0 a0 u.2]) → va_S A s.heap H locs → isb u.1 = true → decode cX11_oldOne pc = .ok (.ireturn, 1) → W p l e rmX11_oldOne s m args below meth c H locs 0 0 QQ (F0 m pc ls [.int u.1]) := by
    intro pc H locs ls u hu hP hD hS hz hd; subst hu; exact hr pc H locs ls _ rfl hP hD hS hz hd
  clear hr
  have hl : lv_has ls 4 [(0, .ref h0), (1, .int p1), (2, .int p2), (3, .int p3)] := hl
  have hinX11 : ∀ w ∈ wsX110, w ∈ wsX11_oldOne := fun _ h => List.mem_cons_of_mem _ (List.mem_append_right _ h)
  unfold fX11_oldOne at h
  suffices key : ∀ (H : Heap) (locs : List Loc), va_P D vwCl (flat [WX11 cy h0 a0 s0]) H → va_S A s.heap H locs → W p l e rmX11_oldOne s m args below meth c H locs 0 0 QQ (F0 m 0 ls []) from key _ _ hP va_S.rf
  clear hP
  intro H locs hP hS
  refine lv_aload_n hx hb dX11_oldOne_0 rfl (lv_at hl 0 rfl) ?_
  refine va_ldcS hx hb hown hX.1.2 dX11_oldOne_1 ?_
  obtain ⟨r1, hr1, h⟩ := bd_elim h
  refine ca_z (w' := [WX11 cy h0 a0 s0]) (rn_V2 (As := [.ref (S 2)]) (rest := []) ⟨hx, hb, hml, hown, hts⟩ (kX11_isName S l D cy h0 a0 s0 r1 hr1 H.size) (cwV 1 hts gX11_oldOne_X11_isName rfl rfl rfl (by decide +kernel) ⟨Nat.le_of_ble_eq_true rfl, Nat.le_of_ble_eq_true rfl⟩) hK hN hX hP hD hS hA [0] rfl rfl (ci := 11) (q0 := 0) rfl rfl rfl rfl hl.1 rfl (Nat.le_of_ble_eq_true rfl) dX11_oldOne_3 ⟨Nat.le_refl 0, Nat.le_refl 0⟩) hP hD hS hA [0] ⟨rfl, rfl, rfl, rfl⟩ (fun b2 H locs hP hD hS => ?_)
  refine lv_if_ne (tgt := 15) hx hb dX11_oldOne_6 (by decide) (fun c3 => ?_) (fun c3 => ?_)
  · replace h := (if_neg c3).symm.trans h
    refine lv_aload_n hx hb dX11_oldOne_15 rfl (lv_at hl 0 rfl) ?_
    refine va_get (D := D) (ci := 11) (v := .ref (a0 0)) (C := RX11) (T := TX11) (N := 38) hx hb hts hinX11 hown hK hP 0 rfl rfl 0 (by decide) (hts (.fieldLink RX11 7 "KneeBenchModel" "at" "[I") (List.mem_of_getElem? (i := 1) rfl)) (fun _ h9 => h9) rfl dX11_oldOne_16 ?_
    refine lv_iload_n hx hb dX11_oldOne_19 rfl (lv_at hl 3 rfl) ?_
    refine lv_aload_n hx hb dX11_oldOne_20 rfl (lv_at hl 0 rfl) ?_
    refine lv_iload_n hx hb dX11_oldOne_21 rfl (lv_at hl 1 rfl) ?_
    refine lv_iload_n hx hb dX11_oldOne_22 rfl (lv_at hl 2 rfl) ?_
    obtain ⟨r4, hr4, h⟩ := bd_elim h
    refine ca_i (w' := [WX11 cy h0 a0 s0]) (rn_V (As := [.int p1, .int p2]) (rest := [.int p3, .ref (a0 0)]) ⟨hx, hb, hml, hown, hts⟩ (kX11_findHere l D cy h0 a0 s0 p1 p2 r4 hr4 H.size) (cwV 2 hts gX11_oldOne_X11_findHere rfl rfl rfl (by decide +kernel) ⟨Nat.le_of_ble_eq_true rfl, Nat.le_of_ble_eq_true rfl⟩) hK hN hP hD [0] rfl rfl (ci := 11) (q0 := 0) rfl rfl rfl rfl hl.1 rfl (Nat.le_of_ble_eq_true rfl) dX11_oldOne_23 ⟨Nat.le_refl 0, Nat.le_refl 0⟩) hP hD hS hA [0] ⟨rfl, rfl, rfl, rfl⟩ (fun H locs hP hD hS => ?_)
    obtain ⟨g5, h⟩ := gd_elim h
    obtain ⟨s0_6, es, h⟩ := lt_elim h
    refine va_iast hx hb hK hP hD hS 1 1 rfl rfl (inb_in g5) dX11_oldOne_26 (fun H locs hP hD hS => ?_)
    have hP : va_P D vwCl (flat [WX11 cy h0 a0 s0_6]) H := by rw [es]; exact hP
    have hD : va_D A (flat [WX11 cy h0 a0 s0_6]) := by rw [es]; exact hD
    clear es
    refine lv_aload_n hx hb dX11_oldOne_27 rfl (lv_at hl 0 rfl) ?_
    refine va_get (D := D) (ci := 11) (v := .ref (a0 0)) (C := RX11) (T := TX11) (N := 38) hx hb hts hinX11 hown hK hP 0 rfl rfl 0 (by decide) (hts (.fieldLink RX11 7 "KneeBenchModel" "at" "[I") (List.mem_of_getElem? (i := 1) rfl)) (fun _ h9 => h9) rfl dX11_oldOne_28 ?_
    refine lv_iload_n hx hb dX11_oldOne_31 rfl (lv_at hl 3 rfl) ?_
    refine va_iald hx hb hK hP 1 1 rfl rfl (inb_in g5) dX11_oldOne_32 ?_
    refine lv_iconst (v := -1) hx hb dX11_oldOne_33 (by decide) ?_
    refine lv_icmp_ne (tgt := 43) hx hb dX11_oldOne_34 (by decide) (fun c7 => ?_) (fun c7 => ?_)
    · replace h := (if_neg c7).symm.trans h
      refine lv_aload_n hx hb dX11_oldOne_43 rfl (lv_at hl 0 rfl) ?_
      obtain ⟨r8, hr8, h⟩ := bd_elim h
      refine ca_v (w' := [WX11 cy h0 a0 r8]) (rn_V (As := []) (rest := []) ⟨hx, hb, hml, hown, hts⟩ (kX11_ahead l D cy h0 a0 s0_6 r8 hr8 H.size) (cwV 0 hts gX11_oldOne_X11_ahead rfl rfl rfl (by decide +kernel) ⟨Nat.le_of_ble_eq_true rfl, Nat.le_of_ble_eq_true rfl⟩) hK hN hP hD [0] rfl rfl (ci := 11) (q0 := 0) rfl rfl rfl rfl hl.1 rfl (Nat.le_of_ble_eq_true rfl) dX11_oldOne_44 ⟨Nat.le_refl 0, Nat.le_refl 0⟩) hP hD hS hA [0] ⟨rfl, rfl, rfl, rfl⟩ (fun H locs hP hD hS => ?_)
      refine lv_iconst (v := 1) hx hb dX11_oldOne_47 (by decide) ?_
      exact hret 48 H locs ls ((1 : Int32), r8) (Option.some.inj h) hP hD hS (show isb (1 : Int32) = true by decide) dX11_oldOne_48
    · replace h := (if_pos c7).symm.trans h
      refine lv_aload_n hx hb dX11_oldOne_37 rfl (lv_at hl 0 rfl) ?_
      refine lv_iconst (v := 3) hx hb dX11_oldOne_38 (by decide) ?_
      obtain ⟨r9, hr9, h⟩ := lt_elim h
      refine ca_z (w' := [WX11 cy h0 a0 r9.2]) (rn_V (As := [.int (3 : Int32)]) (rest := []) ⟨hx, hb, hml, hown, hts⟩ (kX11_fails l D cy h0 a0 s0_6 (3 : Int32) r9 hr9.symm H.size) (cwV 1 hts gX11_oldOne_X11_fails rfl rfl rfl (by decide +kernel) ⟨Nat.le_of_ble_eq_true rfl, Nat.le_of_ble_eq_true rfl⟩) hK hN hP hD [0] rfl rfl (ci := 11) (q0 := 0) rfl rfl rfl rfl hl.1 rfl (Nat.le_of_ble_eq_true rfl) dX11_oldOne_39 ⟨Nat.le_refl 0, Nat.le_refl 0⟩) hP hD hS hA [0] ⟨rfl, rfl, rfl, rfl⟩ (fun b10 H locs hP hD hS => ?_)
      exact hret 42 H locs ls (r9.1, r9.2) (Option.some.inj h) hP hD hS b10 dX11_oldOne_42
  · replace h := (if_pos c3).symm.trans h
    refine lv_aload_n hx hb dX11_oldOne_9 rfl (lv_at hl 0 rfl) ?_
    refine lv_iconst (v := 2) hx hb dX11_oldOne_10 (by decide) ?_
    obtain ⟨r11, hr11, h⟩ := lt_elim h
    refine ca_z (w' := [WX11 cy h0 a0 r11.2]) (rn_V (As := [.int (2 : Int32)]) (rest := []) ⟨hx, hb, hml, hown, hts⟩ (kX11_fails l D cy h0 a0 s0 (2 : Int32) r11 hr11.symm H.size) (cwV 1 hts gX11_oldOne_X11_fails rfl rfl rfl (by decide +kernel) ⟨Nat.le_of_ble_eq_true rfl, Nat.le_of_ble_eq_true rfl⟩) hK hN hP hD [0] rfl rfl (ci := 11) (q0 := 0) rfl rfl rfl rfl hl.1 rfl (Nat.le_of_ble_eq_true rfl) dX11_oldOne_11 ⟨Nat.le_refl 0, Nat.le_refl 0⟩) hP hD hS hA [0] ⟨rfl, rfl, rfl, rfl⟩ (fun b12 H locs hP hD hS => ?_)
    exact hret 14 H locs ls (r11.1, r11.2) (Option.some.inj h) hP hD hS b12 dX11_oldOne_14
set_option maxRecDepth 20000 in
theorem ggX11_aDislike_X11_ahead : GoodIn wsX11_aDislike wsX11_ahead := goodIn_r _ [6, 7, 8, 9, 10, 11, 12, 13, 14, 15, 16, 17, 18, 5, 19, 20, 21, 22, 23, 24, 25, 26, 27, 108, 109, 110, 111, 112, 113, 114, 115, 116, 117, 118, 119, 120, 121, 122, 123, 124, 125, 126, 127, 128, 129, 130, 131, 132, 133, 134, 135, 136, 137, 138, 139, 140, 141, 142, 143, 144, 145] (by decide +kernel) (by decide +kernel)
set_option maxRecDepth 20000 in
theorem gX11_aDislike_X11_ahead : GoodIn wsX11_aDislike (wsV RX11 151 RX11 yX11_ahead wsX11_ahead) := goodIn_app (goodIn_of _ (by decide +kernel)) ggX11_aDislike_X11_ahead
set_option maxRecDepth 20000 in
theorem ggX11_aDislike_X11_oldOne : GoodIn wsX11_aDislike wsX11_oldOne := goodIn_r _ [31, 1, 32, 33, 34, 5, 35, 10, 7, 8, 36, 37, 38, 39, 40, 41, 42, 43, 44, 45, 46, 47, 48, 49, 50, 51, 52, 53, 54, 55, 56, 57, 58, 59, 60, 61, 62, 63, 64, 65, 66, 67, 68, 69, 70, 71, 72, 73, 74, 75, 76, 77, 78, 79, 80, 81, 82, 83, 84, 85, 86, 87, 88, 16, 17, 18, 19, 20, 21, 89, 90, 91, 92, 93, 94, 95, 96, 97, 98, 99, 100, 101, 102, 103, 2, 3, 4, 6, 9, 11, 12, 13, 14, 15, 22, 23, 24, 25, 26, 27, 108, 109, 110, 111, 112, 113, 114, 115, 116, 117, 118, 119, 120, 121, 122, 123, 124, 125, 126, 127, 128, 129, 130, 131, 132, 133, 134, 135, 136, 137, 138, 139, 140, 141, 142, 143, 144, 145] (by decide +kernel) (by decide +kernel)
set_option maxRecDepth 20000 in
theorem gX11_aDislike_X11_oldOne : GoodIn wsX11_aDislike (wsV RX11 192 RX11 yX11_oldOne wsX11_oldOne) := goodIn_app (goodIn_of _ (by decide +kernel)) ggX11_aDislike_X11_oldOne
set_option maxRecDepth 20000 in
theorem ggX11_aDislike_X11_isName : GoodIn wsX11_aDislike wsX11_isName := goodIn_r _ [35, 10, 7, 8, 36, 37, 38, 5, 39, 40, 41, 42, 43, 44, 45, 46, 47, 48, 49, 50, 51, 52, 53, 54, 55, 56, 57, 58, 59, 60, 61, 62, 63, 64, 65, 66, 67, 68, 69, 70, 71, 72, 73, 74, 75, 76, 77, 78, 79, 80, 81, 82, 83, 84, 85, 86, 87, 88, 16, 17, 18, 19, 20, 21, 108, 109, 110, 111, 112, 113, 114, 115, 116, 117, 118, 119, 120, 121, 122, 123, 124, 125, 126, 127, 128, 129, 130, 131, 132, 133, 134, 135, 136, 137, 138, 139, 140, 141, 142, 143, 144, 145] (by decide +kernel) (by decide +kernel)
set_option maxRecDepth 20000 in
theorem gX11_aDislike_X11_isName : GoodIn wsX11_aDislike (wsV RX11 170 RX11 yX11_isName wsX11_isName) := goodIn_app (goodIn_of _ (by decide +kernel)) ggX11_aDislike_X11_isName
set_option maxRecDepth 20000 in
theorem ggX11_aDislike_X11_findHere : GoodIn wsX11_aDislike wsX11_findHere := goodIn_r _ [98, 99, 100, 101, 102, 5, 103, 8, 7, 16, 17, 18, 19, 20, 21, 108, 109, 110, 111, 112, 113, 114, 115, 116, 117, 118, 119, 120, 121, 122, 123, 124, 125, 126, 127, 128, 129, 130, 131, 132, 133, 134, 135, 136, 137, 138, 139, 140, 141, 142, 143, 144, 145] (by decide +kernel) (by decide +kernel)
set_option maxRecDepth 20000 in
theorem gX11_aDislike_X11_findHere : GoodIn wsX11_aDislike (wsV RX11 174 RX11 yX11_findHere wsX11_findHere) := goodIn_app (goodIn_of _ (by decide +kernel)) ggX11_aDislike_X11_findHere
set_option maxRecDepth 20000 in
theorem ggX11_aDislike_X11_fails : GoodIn wsX11_aDislike wsX11_fails := goodIn_r _ [92, 93, 10, 8, 94, 108, 109, 110, 111, 112, 113, 114, 115, 116, 117, 118, 119, 120, 121, 122, 123, 124, 125, 126, 127, 128, 129, 130, 131, 132, 133, 134, 135, 136, 137, 138, 139, 140, 141, 142, 143, 144, 145] (by decide +kernel) (by decide +kernel)
set_option maxRecDepth 20000 in
theorem gX11_aDislike_X11_fails : GoodIn wsX11_aDislike (wsV RX11 157 RX11 yX11_fails wsX11_fails) := goodIn_app (goodIn_of _ (by decide +kernel)) ggX11_aDislike_X11_fails
set_option maxRecDepth 20000 in
theorem ggX11_aDislike_X11_number : GoodIn wsX11_aDislike wsX11_number := goodIn_r _ [107, 10, 9, 1, 89, 90, 91, 5, 92, 93, 8, 94, 2, 3, 4, 6, 7, 11, 12, 13, 14, 15, 16, 17, 18, 19, 20, 21, 22, 23, 24, 25, 26, 27, 108, 109, 110, 111, 112, 113, 114, 115, 116, 117, 118, 119, 120, 121, 122, 123, 124, 125, 126, 127, 128, 129, 130, 131, 132, 133, 134, 135, 136, 137, 138, 139, 140, 141, 142, 143, 144, 145] (by decide +kernel) (by decide +kernel)
set_option maxRecDepth 20000 in
theorem gX11_aDislike_X11_number : GoodIn wsX11_aDislike (wsV RX11 180 RX11 yX11_number wsX11_number) := goodIn_app (goodIn_of _ (by decide +kernel)) ggX11_aDislike_X11_number
theorem dX11_aDislike_0 : decode cX11_aDislike 0 = .ok (.aload_n 0, 1) := by decide +kernel
theorem dX11_aDislike_1 : decode cX11_aDislike 1 = .ok (.getfield 7, 3) := by decide +kernel
theorem dX11_aDislike_4 : decode cX11_aDislike 4 = .ok (.sipush 4160, 3) := by decide +kernel
theorem dX11_aDislike_7 : decode cX11_aDislike 7 = .ok (.iaload, 1) := by decide +kernel
theorem dX11_aDislike_8 : decode cX11_aDislike 8 = .ok (.istore_n 1, 1) := by decide +kernel
theorem dX11_aDislike_9 : decode cX11_aDislike 9 = .ok (.aload_n 0, 1) := by decide +kernel
theorem dX11_aDislike_10 : decode cX11_aDislike 10 = .ok (.invokevirtual 151, 3) := by decide +kernel
theorem dX11_aDislike_13 : decode cX11_aDislike 13 = .ok (.aload_n 0, 1) := by decide +kernel
theorem dX11_aDislike_14 : decode cX11_aDislike 14 = .ok (.bipush 32, 2) := by decide +kernel
theorem dX11_aDislike_16 : decode cX11_aDislike 16 = .ok (.iload_n 1, 1) := by decide +kernel
theorem dX11_aDislike_17 : decode cX11_aDislike 17 = .ok (.sipush 5190, 3) := by decide +kernel
theorem dX11_aDislike_20 : decode cX11_aDislike 20 = .ok (.invokevirtual 192, 3) := by decide +kernel
theorem dX11_aDislike_23 : decode cX11_aDislike 23 = .ok (.ifCond .ne 5, 3) := by decide +kernel
theorem dX11_aDislike_26 : decode cX11_aDislike 26 = .ok (.iconst 0, 1) := by decide +kernel
theorem dX11_aDislike_27 : decode cX11_aDislike 27 = .ok (.ireturn, 1) := by decide +kernel
theorem dX11_aDislike_28 : decode cX11_aDislike 28 = .ok (.aload_n 0, 1) := by decide +kernel
theorem dX11_aDislike_29 : decode cX11_aDislike 29 = .ok (.ldc 168, 2) := by decide +kernel
theorem dX11_aDislike_31 : decode cX11_aDislike 31 = .ok (.invokevirtual 170, 3) := by decide +kernel
theorem dX11_aDislike_34 : decode cX11_aDislike 34 = .ok (.ifCond .eq 27, 3) := by decide +kernel
theorem dX11_aDislike_37 : decode cX11_aDislike 37 = .ok (.aload_n 0, 1) := by decide +kernel
theorem dX11_aDislike_38 : decode cX11_aDislike 38 = .ok (.bipush 32, 2) := by decide +kernel
theorem dX11_aDislike_40 : decode cX11_aDislike 40 = .ok (.iload_n 1, 1) := by decide +kernel
theorem dX11_aDislike_41 : decode cX11_aDislike 41 = .ok (.invokevirtual 174, 3) := by decide +kernel
theorem dX11_aDislike_44 : decode cX11_aDislike 44 = .ok (.aload_n 0, 1) := by decide +kernel
theorem dX11_aDislike_45 : decode cX11_aDislike 45 = .ok (.getfield 7, 3) := by decide +kernel
theorem dX11_aDislike_48 : decode cX11_aDislike 48 = .ok (.sipush 5190, 3) := by decide +kernel
theorem dX11_aDislike_51 : decode cX11_aDislike 51 = .ok (.iaload, 1) := by decide +kernel
theorem dX11_aDislike_52 : decode cX11_aDislike 52 = .ok (.if_icmp .ne 9, 3) := by decide +kernel
theorem dX11_aDislike_55 : decode cX11_aDislike 55 = .ok (.aload_n 0, 1) := by decide +kernel
theorem dX11_aDislike_56 : decode cX11_aDislike 56 = .ok (.iconst 5, 1) := by decide +kernel
theorem dX11_aDislike_57 : decode cX11_aDislike 57 = .ok (.invokevirtual 157, 3) := by decide +kernel
theorem dX11_aDislike_60 : decode cX11_aDislike 60 = .ok (.ireturn, 1) := by decide +kernel
theorem dX11_aDislike_61 : decode cX11_aDislike 61 = .ok (.aload_n 0, 1) := by decide +kernel
theorem dX11_aDislike_62 : decode cX11_aDislike 62 = .ok (.bipush 32, 2) := by decide +kernel
theorem dX11_aDislike_64 : decode cX11_aDislike 64 = .ok (.iload_n 1, 1) := by decide +kernel
theorem dX11_aDislike_65 : decode cX11_aDislike 65 = .ok (.sipush 5191, 3) := by decide +kernel
theorem dX11_aDislike_68 : decode cX11_aDislike 68 = .ok (.invokevirtual 192, 3) := by decide +kernel
theorem dX11_aDislike_71 : decode cX11_aDislike 71 = .ok (.ifCond .eq 16, 3) := by decide +kernel
theorem dX11_aDislike_74 : decode cX11_aDislike 74 = .ok (.aload_n 0, 1) := by decide +kernel
theorem dX11_aDislike_75 : decode cX11_aDislike 75 = .ok (.sipush 5192, 3) := by decide +kernel
theorem dX11_aDislike_78 : decode cX11_aDislike 78 = .ok (.iconst 0, 1) := by decide +kernel
theorem dX11_aDislike_79 : decode cX11_aDislike 79 = .ok (.bipush 99, 2) := by decide +kernel
theorem dX11_aDislike_81 : decode cX11_aDislike 81 = .ok (.invokevirtual 180, 3) := by decide +kernel
theorem dX11_aDislike_84 : decode cX11_aDislike 84 = .ok (.ifCond .ne 5, 3) := by decide +kernel
theorem dX11_aDislike_87 : decode cX11_aDislike 87 = .ok (.iconst 0, 1) := by decide +kernel
theorem dX11_aDislike_88 : decode cX11_aDislike 88 = .ok (.ireturn, 1) := by decide +kernel
theorem dX11_aDislike_89 : decode cX11_aDislike 89 = .ok (.aload_n 0, 1) := by decide +kernel
theorem dX11_aDislike_90 : decode cX11_aDislike 90 = .ok (.getfield 7, 3) := by decide +kernel
theorem dX11_aDislike_93 : decode cX11_aDislike 93 = .ok (.sipush 4218, 3) := by decide +kernel
theorem dX11_aDislike_96 : decode cX11_aDislike 96 = .ok (.bipush 8, 2) := by decide +kernel
theorem dX11_aDislike_98 : decode cX11_aDislike 98 = .ok (.aload_n 0, 1) := by decide +kernel
theorem dX11_aDislike_99 : decode cX11_aDislike 99 = .ok (.getfield 7, 3) := by decide +kernel
theorem dX11_aDislike_102 : decode cX11_aDislike 102 = .ok (.sipush 5190, 3) := by decide +kernel
theorem dX11_aDislike_105 : decode cX11_aDislike 105 = .ok (.iaload, 1) := by decide +kernel
theorem dX11_aDislike_106 : decode cX11_aDislike 106 = .ok (.imul, 1) := by decide +kernel
theorem dX11_aDislike_107 : decode cX11_aDislike 107 = .ok (.iadd, 1) := by decide +kernel
theorem dX11_aDislike_108 : decode cX11_aDislike 108 = .ok (.aload_n 0, 1) := by decide +kernel
theorem dX11_aDislike_109 : decode cX11_aDislike 109 = .ok (.getfield 7, 3) := by decide +kernel
theorem dX11_aDislike_112 : decode cX11_aDislike 112 = .ok (.sipush 5191, 3) := by decide +kernel
theorem dX11_aDislike_115 : decode cX11_aDislike 115 = .ok (.iaload, 1) := by decide +kernel
theorem dX11_aDislike_116 : decode cX11_aDislike 116 = .ok (.iadd, 1) := by decide +kernel
theorem dX11_aDislike_117 : decode cX11_aDislike 117 = .ok (.aload_n 0, 1) := by decide +kernel
theorem dX11_aDislike_118 : decode cX11_aDislike 118 = .ok (.getfield 7, 3) := by decide +kernel
theorem dX11_aDislike_121 : decode cX11_aDislike 121 = .ok (.sipush 5192, 3) := by decide +kernel
theorem dX11_aDislike_124 : decode cX11_aDislike 124 = .ok (.iaload, 1) := by decide +kernel
theorem dX11_aDislike_125 : decode cX11_aDislike 125 = .ok (.iastore, 1) := by decide +kernel
theorem dX11_aDislike_126 : decode cX11_aDislike 126 = .ok (.aload_n 0, 1) := by decide +kernel
theorem dX11_aDislike_127 : decode cX11_aDislike 127 = .ok (.getfield 7, 3) := by decide +kernel
theorem dX11_aDislike_130 : decode cX11_aDislike 130 = .ok (.sipush 4218, 3) := by decide +kernel
theorem dX11_aDislike_133 : decode cX11_aDislike 133 = .ok (.bipush 8, 2) := by decide +kernel
theorem dX11_aDislike_135 : decode cX11_aDislike 135 = .ok (.aload_n 0, 1) := by decide +kernel
theorem dX11_aDislike_136 : decode cX11_aDislike 136 = .ok (.getfield 7, 3) := by decide +kernel
theorem dX11_aDislike_139 : decode cX11_aDislike 139 = .ok (.sipush 5191, 3) := by decide +kernel
theorem dX11_aDislike_142 : decode cX11_aDislike 142 = .ok (.iaload, 1) := by decide +kernel
theorem dX11_aDislike_143 : decode cX11_aDislike 143 = .ok (.imul, 1) := by decide +kernel
theorem dX11_aDislike_144 : decode cX11_aDislike 144 = .ok (.iadd, 1) := by decide +kernel
theorem dX11_aDislike_145 : decode cX11_aDislike 145 = .ok (.aload_n 0, 1) := by decide +kernel
theorem dX11_aDislike_146 : decode cX11_aDislike 146 = .ok (.getfield 7, 3) := by decide +kernel
theorem dX11_aDislike_149 : decode cX11_aDislike 149 = .ok (.sipush 5190, 3) := by decide +kernel
theorem dX11_aDislike_152 : decode cX11_aDislike 152 = .ok (.iaload, 1) := by decide +kernel
theorem dX11_aDislike_153 : decode cX11_aDislike 153 = .ok (.iadd, 1) := by decide +kernel
theorem dX11_aDislike_154 : decode cX11_aDislike 154 = .ok (.aload_n 0, 1) := by decide +kernel
theorem dX11_aDislike_155 : decode cX11_aDislike 155 = .ok (.getfield 7, 3) := by decide +kernel
theorem dX11_aDislike_158 : decode cX11_aDislike 158 = .ok (.sipush 5192, 3) := by decide +kernel
theorem dX11_aDislike_161 : decode cX11_aDislike 161 = .ok (.iaload, 1) := by decide +kernel
theorem dX11_aDislike_162 : decode cX11_aDislike 162 = .ok (.iastore, 1) := by decide +kernel
theorem dX11_aDislike_163 : decode cX11_aDislike 163 = .ok (.iconst 1, 1) := by decide +kernel
theorem dX11_aDislike_164 : decode cX11_aDislike 164 = .ok (.ireturn, 1) := by decide +kernel
abbrev rmX11_aDislike : Room := { frames := 7, cells := 0, slots := 0, locals := 155 }
set_option maxHeartbeats 4000000 in
set_option maxRecDepth 100000 in
theorem kX11_aDislike (S : Nat → Nat) (l : Launch) (D : va_G) (cy : Nat → ClassId) (h0 : Nat) (a0 : Nat → Nat) (s0 : Rc) (res : Int32 × Rc) (h : fX11_aDislike s0 = some res) : CZ2 S l D cy yX11_aDislike wsX11_aDislike rmX11_aDislike [.ref h0] (flat [WX11 cy h0 a0 s0]) (flat [WX11 cy h0 a0 res.2]) res.1 := by
  refine CZ2.of (cc := cX11_aDislike) (maxL := 2) (by decide) rfl (Nat.le_of_ble_eq_true rfl) ?_
  intro p e s m args below meth c A QQ ls E hX hr
  obtain ⟨hx, hb, hml, hown, hts, hK, hN, hP, hD, hA, hl⟩ := E
  have hret : ∀ (pc : Nat) (H : Heap) (locs : List Loc) (ls : Array Slot) (u : Int32 × Rc), u = res → va_P D vwCl (flat [WX11 cy h0 a0 u.2]) H → va_D A (flat [WX11 cy h0 a0 u.2]) → va_S A s.heap H locs → isb u.1 = true → decode cX11_aDislike pc = .ok (.ireturn, 1) → W p l e rmX11_aDislike s m args below meth c H locs 0 0 QQ (F0 m pc ls [.int u.1]) := by
    intro pc H locs ls u hu hP hD hS hz hd; subst hu; exact hr pc H locs ls _ rfl hP hD hS hz hd
  clear hr
  have hl : lv_has ls 2 [(0, .ref h0)] := hl
  have hinX11 : ∀ w ∈ wsX110, w ∈ wsX11_aDislike := fun _ h => List.mem_cons_of_mem _ (List.mem_append_right _ h)
  unfold fX11_aDislike at h
  suffices key : ∀ (H : Heap) (locs : List Loc), va_P D vwCl (flat [WX11 cy h0 a0 s0]) H → va_S A s.heap H locs → W p l e rmX11_aDislike s m args below meth c H locs 0 0 QQ (F0 m 0 ls []) from key _ _ hP va_S.rf
  clear hP
  intro H locs hP hS
  have J61 : ∀ (y61_1 : Int32) (t61_0 : Rc) (H : Heap) (locs : List Loc) (ls : Array Slot), lv_has ls 2 [(0, .ref h0), (1, .int y61_1)] → va_P D vwCl (flat [WX11 cy h0 a0 t61_0]) H → va_D A (flat [WX11 cy h0 a0 t61_0]) → va_S A s.heap H locs → fX11_aDislike_J61 y61_1 t61_0 = some res → W p l e rmX11_aDislike s m args below meth c H locs 0 0 QQ (F0 m 61 ls []) := by
    intro y61_1 t61_0 H locs ls hl hP hD hS h
    unfold fX11_aDislike_J61 at h
    refine lv_aload_n hx hb dX11_aDislike_61 rfl (lv_at hl 0 rfl) ?_
    refine lv_bipush (v := 32) hx hb dX11_aDislike_62 (by decide) ?_
    refine lv_iload_n hx hb dX11_aDislike_64 rfl (lv_at hl 1 rfl) ?_
    refine lv_sipush (v := 5191) hx hb dX11_aDislike_65 (by decide) ?_
    obtain ⟨r1, hr1, h⟩ := bd_elim h
    refine ca_z (w' := [WX11 cy h0 a0 r1.2]) (rn_V2 (As := [.int (32 : Int32), .int y61_1, .int (5191 : Int32)]) (rest := []) ⟨hx, hb, hml, hown, hts⟩ (kX11_oldOne S l D cy h0 a0 t61_0 (32 : Int32) y61_1 (5191 : Int32) r1 hr1 H.size) (cwV 3 hts gX11_aDislike_X11_oldOne rfl rfl rfl (by decide +kernel) ⟨Nat.le_of_ble_eq_true rfl, Nat.le_of_ble_eq_true rfl⟩) hK hN hX hP hD hS hA [0] rfl rfl (ci := 11) (q0 := 0) rfl rfl rfl rfl hl.1 rfl (Nat.le_of_ble_eq_true rfl) dX11_aDislike_68 ⟨Nat.le_refl 0, Nat.le_refl 0⟩) hP hD hS hA [0] ⟨rfl, rfl, rfl, rfl⟩ (fun b2 H locs hP hD hS => ?_)
    refine lv_if_eq (tgt := 87) hx hb dX11_aDislike_71 (by decide) (fun c3 => ?_) (fun c3 => ?_)
    · replace h := (if_pos c3).symm.trans h
      refine lv_iconst (v := 0) hx hb dX11_aDislike_87 (by decide) ?_
      exact hret 88 H locs ls ((0 : Int32), r1.2) (Option.some.inj h) hP hD hS (show isb (0 : Int32) = true by decide) dX11_aDislike_88
    · replace h := (if_neg c3).symm.trans h
      refine lv_aload_n hx hb dX11_aDislike_74 rfl (lv_at hl 0 rfl) ?_
      refine lv_sipush (v := 5192) hx hb dX11_aDislike_75 (by decide) ?_
      refine lv_iconst (v := 0) hx hb dX11_aDislike_78 (by decide) ?_
      refine lv_bipush (v := 99) hx hb dX11_aDislike_79 (by decide) ?_
      obtain ⟨r4, hr4, h⟩ := bd_elim h
      refine ca_z (w' := [WX11 cy h0 a0 r4.2]) (rn_V (As := [.int (5192 : Int32), .int (0 : Int32), .int (99 : Int32)]) (rest := []) ⟨hx, hb, hml, hown, hts⟩ (kX11_number l D cy h0 a0 r1.2 (5192 : Int32) (0 : Int32) (99 : Int32) r4 hr4 H.size) (cwV 3 hts gX11_aDislike_X11_number rfl rfl rfl (by decide +kernel) ⟨Nat.le_of_ble_eq_true rfl, Nat.le_of_ble_eq_true rfl⟩) hK hN hP hD [0] rfl rfl (ci := 11) (q0 := 0) rfl rfl rfl rfl hl.1 rfl (Nat.le_of_ble_eq_true rfl) dX11_aDislike_81 ⟨Nat.le_refl 0, Nat.le_refl 0⟩) hP hD hS hA [0] ⟨rfl, rfl, rfl, rfl⟩ (fun b5 H locs hP hD hS => ?_)
      refine lv_if_ne (tgt := 89) hx hb dX11_aDislike_84 (by decide) (fun c6 => ?_) (fun c6 => ?_)
      · replace h := (if_neg c6).symm.trans h
        refine lv_aload_n hx hb dX11_aDislike_89 rfl (lv_at hl 0 rfl) ?_
        refine va_get (D := D) (ci := 11) (v := .ref (a0 0)) (C := RX11) (T := TX11) (N := 38) hx hb hts hinX11 hown hK hP 0 rfl rfl 0 (by decide) (hts (.fieldLink RX11 7 "KneeBenchModel" "at" "[I") (List.mem_of_getElem? (i := 1) rfl)) (fun _ h9 => h9) rfl dX11_aDislike_90 ?_
        refine lv_sipush (v := 4218) hx hb dX11_aDislike_93 (by decide) ?_
        refine lv_bipush (v := 8) hx hb dX11_aDislike_96 (by decide) ?_
        refine lv_aload_n hx hb dX11_aDislike_98 rfl (lv_at hl 0 rfl) ?_
        refine va_get (D := D) (ci := 11) (v := .ref (a0 0)) (C := RX11) (T := TX11) (N := 38) hx hb hts hinX11 hown hK hP 0 rfl rfl 0 (by decide) (hts (.fieldLink RX11 7 "KneeBenchModel" "at" "[I") (List.mem_of_getElem? (i := 1) rfl)) (fun _ h9 => h9) rfl dX11_aDislike_99 ?_
        refine lv_sipush (v := 5190) hx hb dX11_aDislike_102 (by decide) ?_
        refine va_iald hx hb hK hP 1 1 rfl rfl (inb_in (by decide)) dX11_aDislike_105 ?_
        refine lv_imul hx hb dX11_aDislike_106 ?_
        refine lv_iadd hx hb dX11_aDislike_107 ?_
        refine lv_aload_n hx hb dX11_aDislike_108 rfl (lv_at hl 0 rfl) ?_
        refine va_get (D := D) (ci := 11) (v := .ref (a0 0)) (C := RX11) (T := TX11) (N := 38) hx hb hts hinX11 hown hK hP 0 rfl rfl 0 (by decide) (hts (.fieldLink RX11 7 "KneeBenchModel" "at" "[I") (List.mem_of_getElem? (i := 1) rfl)) (fun _ h9 => h9) rfl dX11_aDislike_109 ?_
        refine lv_sipush (v := 5191) hx hb dX11_aDislike_112 (by decide) ?_
        refine va_iald hx hb hK hP 1 1 rfl rfl (inb_in (by decide)) dX11_aDislike_115 ?_
        refine lv_iadd hx hb dX11_aDislike_116 ?_
        refine lv_aload_n hx hb dX11_aDislike_117 rfl (lv_at hl 0 rfl) ?_
        refine va_get (D := D) (ci := 11) (v := .ref (a0 0)) (C := RX11) (T := TX11) (N := 38) hx hb hts hinX11 hown hK hP 0 rfl rfl 0 (by decide) (hts (.fieldLink RX11 7 "KneeBenchModel" "at" "[I") (List.mem_of_getElem? (i := 1) rfl)) (fun _ h9 => h9) rfl dX11_aDislike_118 ?_
        refine lv_sipush (v := 5192) hx hb dX11_aDislike_121 (by decide) ?_
        refine va_iald hx hb hK hP 1 1 rfl rfl (inb_in (by decide)) dX11_aDislike_124 ?_
        obtain ⟨g7, h⟩ := gd_elim h
        obtain ⟨s0_8, es, h⟩ := lt_elim h
        refine va_iast hx hb hK hP hD hS 1 1 rfl rfl (inb_in g7) dX11_aDislike_125 (fun H locs hP hD hS => ?_)
        have hP : va_P D vwCl (flat [WX11 cy h0 a0 s0_8]) H := by rw [es]; exact hP
        have hD : va_D A (flat [WX11 cy h0 a0 s0_8]) := by rw [es]; exact hD
        clear es
        refine lv_aload_n hx hb dX11_aDislike_126 rfl (lv_at hl 0 rfl) ?_
        refine va_get (D := D) (ci := 11) (v := .ref (a0 0)) (C := RX11) (T := TX11) (N := 38) hx hb hts hinX11 hown hK hP 0 rfl rfl 0 (by decide) (hts (.fieldLink RX11 7 "KneeBenchModel" "at" "[I") (List.mem_of_getElem? (i := 1) rfl)) (fun _ h9 => h9) rfl dX11_aDislike_127 ?_
        refine lv_sipush (v := 4218) hx hb dX11_aDislike_130 (by decide) ?_
        refine lv_bipush (v := 8) hx hb dX11_aDislike_133 (by decide) ?_
        refine lv_aload_n hx hb dX11_aDislike_135 rfl (lv_at hl 0 rfl) ?_
        refine va_get (D := D) (ci := 11) (v := .ref (a0 0)) (C := RX11) (T := TX11) (N := 38) hx hb hts hinX11 hown hK hP 0 rfl rfl 0 (by decide) (hts (.fieldLink RX11 7 "KneeBenchModel" "at" "[I") (List.mem_of_getElem? (i := 1) rfl)) (fun _ h9 => h9) rfl dX11_aDislike_136 ?_
        refine lv_sipush (v := 5191) hx hb dX11_aDislike_139 (by decide) ?_
        refine va_iald hx hb hK hP 1 1 rfl rfl (inb_in (by decide)) dX11_aDislike_142 ?_
        refine lv_imul hx hb dX11_aDislike_143 ?_
        refine lv_iadd hx hb dX11_aDislike_144 ?_
        refine lv_aload_n hx hb dX11_aDislike_145 rfl (lv_at hl 0 rfl) ?_
        refine va_get (D := D) (ci := 11) (v := .ref (a0 0)) (C := RX11) (T := TX11) (N := 38) hx hb hts hinX11 hown hK hP 0 rfl rfl 0 (by decide) (hts (.fieldLink RX11 7 "KneeBenchModel" "at" "[I") (List.mem_of_getElem? (i := 1) rfl)) (fun _ h9 => h9) rfl dX11_aDislike_146 ?_
        refine lv_sipush (v := 5190) hx hb dX11_aDislike_149 (by decide) ?_
        refine va_iald hx hb hK hP 1 1 rfl rfl (inb_in (by decide)) dX11_aDislike_152 ?_
        refine lv_iadd hx hb dX11_aDislike_153 ?_
        refine lv_aload_n hx hb dX11_aDislike_154 rfl (lv_at hl 0 rfl) ?_
        refine va_get (D := D) (ci := 11) (v := .ref (a0 0)) (C := RX11) (T := TX11) (N := 38) hx hb hts hinX11 hown hK hP 0 rfl rfl 0 (by decide) (hts (.fieldLink RX11 7 "KneeBenchModel" "at" "[I") (List.mem_of_getElem? (i := 1) rfl)) (fun _ h9 => h9) rfl dX11_aDislike_155 ?_
        refine lv_sipush (v := 5192) hx hb dX11_aDislike_158 (by decide) ?_
        refine va_iald hx hb hK hP 1 1 rfl rfl (inb_in (by decide)) dX11_aDislike_161 ?_
        obtain ⟨g9, h⟩ := gd_elim h
        obtain ⟨s0_10, es, h⟩ := lt_elim h
        refine va_iast hx hb hK hP hD hS 1 1 rfl rfl (inb_in g9) dX11_aDislike_162 (fun H locs hP hD hS => ?_)
        have hP : va_P D vwCl (flat [WX11 cy h0 a0 s0_10]) H := by rw [es]; exact hP
        have hD : va_D A (flat [WX11 cy h0 a0 s0_10]) := by rw [es]; exact hD
        clear es
        refine lv_iconst (v := 1) hx hb dX11_aDislike_163 (by decide) ?_
        exact hret 164 H locs ls ((1 : Int32), s0_10) (Option.some.inj h) hP hD hS (show isb (1 : Int32) = true by decide) dX11_aDislike_164
      · replace h := (if_pos c6).symm.trans h
        refine lv_iconst (v := 0) hx hb dX11_aDislike_87 (by decide) ?_
        exact hret 88 H locs ls ((0 : Int32), r4.2) (Option.some.inj h) hP hD hS (show isb (0 : Int32) = true by decide) dX11_aDislike_88
  refine lv_aload_n hx hb dX11_aDislike_0 rfl (lv_at hl 0 rfl) ?_
  refine va_get (D := D) (ci := 11) (v := .ref (a0 0)) (C := RX11) (T := TX11) (N := 38) hx hb hts hinX11 hown hK hP 0 rfl rfl 0 (by decide) (hts (.fieldLink RX11 7 "KneeBenchModel" "at" "[I") (List.mem_of_getElem? (i := 1) rfl)) (fun _ h9 => h9) rfl dX11_aDislike_1 ?_
  refine lv_sipush (v := 4160) hx hb dX11_aDislike_4 (by decide) ?_
  refine va_iald hx hb hK hP 1 1 rfl rfl (inb_in (by decide)) dX11_aDislike_7 ?_
  refine lv_topi (fun x11 ex11 => ?_)
  replace h := lt_use h x11 ex11
  refine lv_istore_n (lv' := [(1, .int x11), (0, .ref h0)]) hx hb dX11_aDislike_8 rfl hl (by decide) rfl (fun ls hl => ?_)
  refine lv_aload_n hx hb dX11_aDislike_9 rfl (lv_at hl 1 rfl) ?_
  obtain ⟨r12, hr12, h⟩ := bd_elim h
  refine ca_v (w' := [WX11 cy h0 a0 r12]) (rn_V (As := []) (rest := []) ⟨hx, hb, hml, hown, hts⟩ (kX11_ahead l D cy h0 a0 s0 r12 hr12 H.size) (cwV 0 hts gX11_aDislike_X11_ahead rfl rfl rfl (by decide +kernel) ⟨Nat.le_of_ble_eq_true rfl, Nat.le_of_ble_eq_true rfl⟩) hK hN hP hD [0] rfl rfl (ci := 11) (q0 := 0) rfl rfl rfl rfl hl.1 rfl (Nat.le_of_ble_eq_true rfl) dX11_aDislike_10 ⟨Nat.le_refl 0, Nat.le_refl 0⟩) hP hD hS hA [0] ⟨rfl, rfl, rfl, rfl⟩ (fun H locs hP hD hS => ?_)
  refine lv_aload_n hx hb dX11_aDislike_13 rfl (lv_at hl 1 rfl) ?_
  refine lv_bipush (v := 32) hx hb dX11_aDislike_14 (by decide) ?_
  refine lv_iload_n hx hb dX11_aDislike_16 rfl (lv_at hl 0 rfl) ?_
  refine lv_sipush (v := 5190) hx hb dX11_aDislike_17 (by decide) ?_
  obtain ⟨r13, hr13, h⟩ := bd_elim h
  refine ca_z (w' := [WX11 cy h0 a0 r13.2]) (rn_V2 (As := [.int (32 : Int32), .int x11, .int (5190 : Int32)]) (rest := []) ⟨hx, hb, hml, hown, hts⟩ (kX11_oldOne S l D cy h0 a0 r12 (32 : Int32) x11 (5190 : Int32) r13 hr13 H.size) (cwV 3 hts gX11_aDislike_X11_oldOne rfl rfl rfl (by decide +kernel) ⟨Nat.le_of_ble_eq_true rfl, Nat.le_of_ble_eq_true rfl⟩) hK hN hX hP hD hS hA [0] rfl rfl (ci := 11) (q0 := 0) rfl rfl rfl rfl hl.1 rfl (Nat.le_of_ble_eq_true rfl) dX11_aDislike_20 ⟨Nat.le_refl 0, Nat.le_refl 0⟩) hP hD hS hA [0] ⟨rfl, rfl, rfl, rfl⟩ (fun b14 H locs hP hD hS => ?_)
  refine lv_if_ne (tgt := 28) hx hb dX11_aDislike_23 (by decide) (fun c15 => ?_) (fun c15 => ?_)
  · replace h := (if_neg c15).symm.trans h
    refine lv_aload_n hx hb dX11_aDislike_28 rfl (lv_at hl 1 rfl) ?_
    refine va_ldcS hx hb hown hX.1.2 dX11_aDislike_29 ?_
    obtain ⟨r16, hr16, h⟩ := bd_elim h
    refine ca_z (w' := [WX11 cy h0 a0 r13.2]) (rn_V2 (As := [.ref (S 2)]) (rest := []) ⟨hx, hb, hml, hown, hts⟩ (kX11_isName S l D cy h0 a0 r13.2 r16 hr16 H.size) (cwV 1 hts gX11_aDislike_X11_isName rfl rfl rfl (by decide +kernel) ⟨Nat.le_of_ble_eq_true rfl, Nat.le_of_ble_eq_true rfl⟩) hK hN hX hP hD hS hA [0] rfl rfl (ci := 11) (q0 := 0) rfl rfl rfl rfl hl.1 rfl (Nat.le_of_ble_eq_true rfl) dX11_aDislike_31 ⟨Nat.le_refl 0, Nat.le_refl 0⟩) hP hD hS hA [0] ⟨rfl, rfl, rfl, rfl⟩ (fun b17 H locs hP hD hS => ?_)
    refine lv_if_eq (tgt := 61) hx hb dX11_aDislike_34 (by decide) (fun c18 => ?_) (fun c18 => ?_)
    · replace h := (if_pos c18).symm.trans h
      exact J61 x11 r13.2 H locs ls (lv_sub hl [1, 0] rfl) hP hD hS h
    · replace h := (if_neg c18).symm.trans h
      refine lv_aload_n hx hb dX11_aDislike_37 rfl (lv_at hl 1 rfl) ?_
      refine lv_bipush (v := 32) hx hb dX11_aDislike_38 (by decide) ?_
      refine lv_iload_n hx hb dX11_aDislike_40 rfl (lv_at hl 0 rfl) ?_
      obtain ⟨r19, hr19, h⟩ := bd_elim h
      refine ca_i (w' := [WX11 cy h0 a0 r13.2]) (rn_V (As := [.int (32 : Int32), .int x11]) (rest := []) ⟨hx, hb, hml, hown, hts⟩ (kX11_findHere l D cy h0 a0 r13.2 (32 : Int32) x11 r19 hr19 H.size) (cwV 2 hts gX11_aDislike_X11_findHere rfl rfl rfl (by decide +kernel) ⟨Nat.le_of_ble_eq_true rfl, Nat.le_of_ble_eq_true rfl⟩) hK hN hP hD [0] rfl rfl (ci := 11) (q0 := 0) rfl rfl rfl rfl hl.1 rfl (Nat.le_of_ble_eq_true rfl) dX11_aDislike_41 ⟨Nat.le_refl 0, Nat.le_refl 0⟩) hP hD hS hA [0] ⟨rfl, rfl, rfl, rfl⟩ (fun H locs hP hD hS => ?_)
      refine lv_aload_n hx hb dX11_aDislike_44 rfl (lv_at hl 1 rfl) ?_
      refine va_get (D := D) (ci := 11) (v := .ref (a0 0)) (C := RX11) (T := TX11) (N := 38) hx hb hts hinX11 hown hK hP 0 rfl rfl 0 (by decide) (hts (.fieldLink RX11 7 "KneeBenchModel" "at" "[I") (List.mem_of_getElem? (i := 1) rfl)) (fun _ h9 => h9) rfl dX11_aDislike_45 ?_
      refine lv_sipush (v := 5190) hx hb dX11_aDislike_48 (by decide) ?_
      refine va_iald hx hb hK hP 1 1 rfl rfl (inb_in (by decide)) dX11_aDislike_51 ?_
      refine lv_icmp_ne (tgt := 61) hx hb dX11_aDislike_52 (by decide) (fun c20 => ?_) (fun c20 => ?_)
      · replace h := (if_neg c20).symm.trans h
        exact J61 x11 r13.2 H locs ls (lv_sub hl [1, 0] rfl) hP hD hS h
      · replace h := (if_pos c20).symm.trans h
        refine lv_aload_n hx hb dX11_aDislike_55 rfl (lv_at hl 1 rfl) ?_
        refine lv_iconst (v := 5) hx hb dX11_aDislike_56 (by decide) ?_
        obtain ⟨r21, hr21, h⟩ := lt_elim h
        refine ca_z (w' := [WX11 cy h0 a0 r21.2]) (rn_V (As := [.int (5 : Int32)]) (rest := []) ⟨hx, hb, hml, hown, hts⟩ (kX11_fails l D cy h0 a0 r13.2 (5 : Int32) r21 hr21.symm H.size) (cwV 1 hts gX11_aDislike_X11_fails rfl rfl rfl (by decide +kernel) ⟨Nat.le_of_ble_eq_true rfl, Nat.le_of_ble_eq_true rfl⟩) hK hN hP hD [0] rfl rfl (ci := 11) (q0 := 0) rfl rfl rfl rfl hl.1 rfl (Nat.le_of_ble_eq_true rfl) dX11_aDislike_57 ⟨Nat.le_refl 0, Nat.le_refl 0⟩) hP hD hS hA [0] ⟨rfl, rfl, rfl, rfl⟩ (fun b22 H locs hP hD hS => ?_)
        exact hret 60 H locs ls (r21.1, r21.2) (Option.some.inj h) hP hD hS b22 dX11_aDislike_60
  · replace h := (if_pos c15).symm.trans h
    refine lv_iconst (v := 0) hx hb dX11_aDislike_26 (by decide) ?_
    exact hret 27 H locs ls ((0 : Int32), r13.2) (Option.some.inj h) hP hD hS (show isb (0 : Int32) = true by decide) dX11_aDislike_27
set_option maxRecDepth 20000 in
theorem ggX11_wantWord_X11_inWords : GoodIn wsX11_wantWord wsX11_inWords := goodIn_r _ [5, 6, 7, 8, 9, 10, 11, 12, 13, 14, 15, 16, 17, 18, 19, 20, 21, 22, 23, 24, 25, 26, 27, 28, 29, 30, 31, 32, 33, 34, 35, 36, 37, 38, 39, 40, 41, 42, 43, 44, 45, 46, 47, 48, 49, 50, 51, 52, 53, 54, 55, 56, 57, 58, 59, 60, 4, 61, 62, 63, 86, 87, 88, 89, 90, 91, 92, 93, 94, 95, 96, 97, 98, 99, 100, 101, 102, 103, 104, 105, 106, 107, 108, 109, 110, 111, 112, 113, 114, 115, 116, 117, 118, 119, 120, 121, 122, 123] (by decide +kernel) (by decide +kernel)
set_option maxRecDepth 20000 in
theorem gX11_wantWord_X11_inWords : GoodIn wsX11_wantWord (wsV RX11 160 RX11 yX11_inWords wsX11_inWords) := goodIn_app (goodIn_of _ (by decide +kernel)) ggX11_wantWord_X11_inWords
set_option maxRecDepth 20000 in
theorem ggX11_wantWord_X11_fails : GoodIn wsX11_wantWord wsX11_fails := goodIn_r _ [67, 68, 6, 8, 69, 86, 87, 88, 89, 90, 91, 92, 93, 94, 95, 96, 97, 98, 99, 100, 101, 102, 103, 104, 105, 106, 107, 108, 109, 110, 111, 112, 113, 114, 115, 116, 117, 118, 119, 120, 121, 122, 123] (by decide +kernel) (by decide +kernel)
set_option maxRecDepth 20000 in
theorem gX11_wantWord_X11_fails : GoodIn wsX11_wantWord (wsV RX11 157 RX11 yX11_fails wsX11_fails) := goodIn_app (goodIn_of _ (by decide +kernel)) ggX11_wantWord_X11_fails
set_option maxRecDepth 20000 in
theorem ggX11_wantWord_X11_ahead : GoodIn wsX11_wantWord wsX11_ahead := goodIn_r _ [73, 7, 8, 74, 6, 75, 76, 77, 78, 79, 58, 59, 60, 4, 61, 62, 63, 80, 81, 82, 83, 84, 85, 86, 87, 88, 89, 90, 91, 92, 93, 94, 95, 96, 97, 98, 99, 100, 101, 102, 103, 104, 105, 106, 107, 108, 109, 110, 111, 112, 113, 114, 115, 116, 117, 118, 119, 120, 121, 122, 123] (by decide +kernel) (by decide +kernel)
set_option maxRecDepth 20000 in
theorem gX11_wantWord_X11_ahead : GoodIn wsX11_wantWord (wsV RX11 151 RX11 yX11_ahead wsX11_ahead) := goodIn_app (goodIn_of _ (by decide +kernel)) ggX11_wantWord_X11_ahead
theorem dX11_wantWord_0 : decode cX11_wantWord 0 = .ok (.aload_n 0, 1) := by decide +kernel
theorem dX11_wantWord_1 : decode cX11_wantWord 1 = .ok (.aload_n 1, 1) := by decide +kernel
theorem dX11_wantWord_2 : decode cX11_wantWord 2 = .ok (.invokevirtual 160, 3) := by decide +kernel
theorem dX11_wantWord_5 : decode cX11_wantWord 5 = .ok (.iload_n 2, 1) := by decide +kernel
theorem dX11_wantWord_6 : decode cX11_wantWord 6 = .ok (.if_icmp .eq 9, 3) := by decide +kernel
theorem dX11_wantWord_9 : decode cX11_wantWord 9 = .ok (.aload_n 0, 1) := by decide +kernel
theorem dX11_wantWord_10 : decode cX11_wantWord 10 = .ok (.iconst 2, 1) := by decide +kernel
theorem dX11_wantWord_11 : decode cX11_wantWord 11 = .ok (.invokevirtual 157, 3) := by decide +kernel
theorem dX11_wantWord_14 : decode cX11_wantWord 14 = .ok (.ireturn, 1) := by decide +kernel
theorem dX11_wantWord_15 : decode cX11_wantWord 15 = .ok (.aload_n 0, 1) := by decide +kernel
theorem dX11_wantWord_16 : decode cX11_wantWord 16 = .ok (.invokevirtual 151, 3) := by decide +kernel
theorem dX11_wantWord_19 : decode cX11_wantWord 19 = .ok (.iconst 1, 1) := by decide +kernel
theorem dX11_wantWord_20 : decode cX11_wantWord 20 = .ok (.ireturn, 1) := by decide +kernel
abbrev rmX11_wantWord : Room := { frames := 5, cells := 0, slots := 0, locals := 111 }
set_option maxHeartbeats 4000000 in
set_option maxRecDepth 100000 in
theorem kX11_wantWord (S : Nat → Nat) (l : Launch) (D : va_G) (cy : Nat → ClassId) (h0 : Nat) (a0 : Nat → Nat) (s0 : Rc) (p2 : Int32) (res : Int32 × Rc) (h : fX11_wantWord p2 s0 = some res) : CZ2 S l D cy yX11_wantWord wsX11_wantWord rmX11_wantWord [.ref h0, .ref (S 2), .int p2] (flat [WX11 cy h0 a0 s0]) (flat [WX11 cy h0 a0 res.2]) res.1 := by
  refine CZ2.of (cc := cX11_wantWord) (maxL := 3) (by decide) rfl (Nat.le_of_ble_eq_true rfl) ?_
  intro p e s m args below meth c A QQ ls E hX hr
  obtain ⟨hx, hb, hml, hown, hts, hK, hN, hP, hD, hA, hl⟩ := E
  have hret : ∀ (pc : Nat) (H : Heap) (locs : List Loc) (ls : Array Slot) (u : Int32 × Rc), u = res → va_P D vwCl (flat [WX11 cy h0 a0 u.2]) H → va_D A (flat [WX11 cy h0 a0 u.2]) → va_S A s.heap H locs → isb u.1 = true → decode cX11_wantWord pc = .ok (.ireturn, 1) → W p l e rmX11_wantWord s m args below meth c H locs 0 0 QQ (F0 m pc ls [.int u.1]) := by
    intro pc H locs ls u hu hP hD hS hz hd; subst hu; exact hr pc H locs ls _ rfl hP hD hS hz hd
  clear hr
  have hl : lv_has ls 3 [(0, .ref h0), (1, .ref (S 2)), (2, .int p2)] := hl
  unfold fX11_wantWord at h
  suffices key : ∀ (H : Heap) (locs : List Loc), va_P D vwCl (flat [WX11 cy h0 a0 s0]) H → va_S A s.heap H locs → W p l e rmX11_wantWord s m args below meth c H locs 0 0 QQ (F0 m 0 ls []) from key _ _ hP va_S.rf
  clear hP
  intro H locs hP hS
  refine lv_aload_n hx hb dX11_wantWord_0 rfl (lv_at hl 0 rfl) ?_
  refine lv_aload_n hx hb dX11_wantWord_1 rfl (lv_at hl 1 rfl) ?_
  obtain ⟨r1, hr1, h⟩ := bd_elim h
  refine ca_i (w' := [WX11 cy h0 a0 s0]) (rn_V2 (As := [.ref (S 2)]) (rest := []) ⟨hx, hb, hml, hown, hts⟩ (kX11_inWords S l D cy h0 a0 s0 r1 hr1 H.size) (cwV 1 hts gX11_wantWord_X11_inWords rfl rfl rfl (by decide +kernel) ⟨Nat.le_of_ble_eq_true rfl, Nat.le_of_ble_eq_true rfl⟩) hK hN hX hP hD hS hA [0] rfl rfl (ci := 11) (q0 := 0) rfl rfl rfl rfl hl.1 rfl (Nat.le_of_ble_eq_true rfl) dX11_wantWord_2 ⟨Nat.le_refl 0, Nat.le_refl 0⟩) hP hD hS hA [0] ⟨rfl, rfl, rfl, rfl⟩ (fun H locs hP hD hS => ?_)
  refine lv_iload_n hx hb dX11_wantWord_5 rfl (lv_at hl 2 rfl) ?_
  refine lv_icmp_eq (tgt := 15) hx hb dX11_wantWord_6 (by decide) (fun c2 => ?_) (fun c2 => ?_)
  · replace h := (if_pos c2).symm.trans h
    refine lv_aload_n hx hb dX11_wantWord_15 rfl (lv_at hl 0 rfl) ?_
    obtain ⟨r3, hr3, h⟩ := bd_elim h
    refine ca_v (w' := [WX11 cy h0 a0 r3]) (rn_V (As := []) (rest := []) ⟨hx, hb, hml, hown, hts⟩ (kX11_ahead l D cy h0 a0 s0 r3 hr3 H.size) (cwV 0 hts gX11_wantWord_X11_ahead rfl rfl rfl (by decide +kernel) ⟨Nat.le_of_ble_eq_true rfl, Nat.le_of_ble_eq_true rfl⟩) hK hN hP hD [0] rfl rfl (ci := 11) (q0 := 0) rfl rfl rfl rfl hl.1 rfl (Nat.le_of_ble_eq_true rfl) dX11_wantWord_16 ⟨Nat.le_refl 0, Nat.le_refl 0⟩) hP hD hS hA [0] ⟨rfl, rfl, rfl, rfl⟩ (fun H locs hP hD hS => ?_)
    refine lv_iconst (v := 1) hx hb dX11_wantWord_19 (by decide) ?_
    exact hret 20 H locs ls ((1 : Int32), r3) (Option.some.inj h) hP hD hS (show isb (1 : Int32) = true by decide) dX11_wantWord_20
  · replace h := (if_neg c2).symm.trans h
    refine lv_aload_n hx hb dX11_wantWord_9 rfl (lv_at hl 0 rfl) ?_
    refine lv_iconst (v := 2) hx hb dX11_wantWord_10 (by decide) ?_
    obtain ⟨r4, hr4, h⟩ := lt_elim h
    refine ca_z (w' := [WX11 cy h0 a0 r4.2]) (rn_V (As := [.int (2 : Int32)]) (rest := []) ⟨hx, hb, hml, hown, hts⟩ (kX11_fails l D cy h0 a0 s0 (2 : Int32) r4 hr4.symm H.size) (cwV 1 hts gX11_wantWord_X11_fails rfl rfl rfl (by decide +kernel) ⟨Nat.le_of_ble_eq_true rfl, Nat.le_of_ble_eq_true rfl⟩) hK hN hP hD [0] rfl rfl (ci := 11) (q0 := 0) rfl rfl rfl rfl hl.1 rfl (Nat.le_of_ble_eq_true rfl) dX11_wantWord_11 ⟨Nat.le_refl 0, Nat.le_refl 0⟩) hP hD hS hA [0] ⟨rfl, rfl, rfl, rfl⟩ (fun b5 H locs hP hD hS => ?_)
    exact hret 14 H locs ls (r4.1, r4.2) (Option.some.inj h) hP hD hS b5 dX11_wantWord_14
set_option maxRecDepth 20000 in
theorem ggX11_isThere_X11_inWords : GoodIn wsX11_isThere wsX11_inWords := goodIn_r _ [5, 6, 7, 8, 9, 10, 11, 12, 13, 14, 15, 16, 17, 18, 19, 20, 21, 22, 23, 24, 25, 26, 27, 28, 29, 30, 31, 32, 33, 34, 35, 36, 37, 38, 39, 40, 41, 42, 43, 44, 45, 46, 47, 48, 49, 50, 51, 52, 53, 54, 55, 56, 57, 58, 59, 60, 4, 61, 62, 63, 80, 81, 82, 83, 84, 85, 86, 87, 88, 89, 90, 91, 92, 93, 94, 95, 96, 97, 98, 99, 100, 101, 102, 103, 104, 105, 106, 107, 108, 109, 110, 111, 112, 113, 114, 115, 116, 117] (by decide +kernel) (by decide +kernel)
set_option maxRecDepth 20000 in
theorem gX11_isThere_X11_inWords : GoodIn wsX11_isThere (wsV RX11 160 RX11 yX11_inWords wsX11_inWords) := goodIn_app (goodIn_of _ (by decide +kernel)) ggX11_isThere_X11_inWords
set_option maxRecDepth 20000 in
theorem ggX11_isThere_X11_ahead : GoodIn wsX11_isThere wsX11_ahead := goodIn_r _ [67, 7, 8, 68, 6, 69, 70, 71, 72, 73, 58, 59, 60, 4, 61, 62, 63, 74, 75, 76, 77, 78, 79, 80, 81, 82, 83, 84, 85, 86, 87, 88, 89, 90, 91, 92, 93, 94, 95, 96, 97, 98, 99, 100, 101, 102, 103, 104, 105, 106, 107, 108, 109, 110, 111, 112, 113, 114, 115, 116, 117] (by decide +kernel) (by decide +kernel)
set_option maxRecDepth 20000 in
theorem gX11_isThere_X11_ahead : GoodIn wsX11_isThere (wsV RX11 151 RX11 yX11_ahead wsX11_ahead) := goodIn_app (goodIn_of _ (by decide +kernel)) ggX11_isThere_X11_ahead
theorem dX11_isThere_0 : decode cX11_isThere 0 = .ok (.aload_n 0, 1) := by decide +kernel
theorem dX11_isThere_1 : decode cX11_isThere 1 = .ok (.ldc 168, 2) := by decide +kernel
theorem dX11_isThere_3 : decode cX11_isThere 3 = .ok (.invokevirtual 160, 3) := by decide +kernel
theorem dX11_isThere_6 : decode cX11_isThere 6 = .ok (.iload_n 1, 1) := by decide +kernel
theorem dX11_isThere_7 : decode cX11_isThere 7 = .ok (.if_icmp .eq 5, 3) := by decide +kernel
theorem dX11_isThere_10 : decode cX11_isThere 10 = .ok (.iconst 0, 1) := by decide +kernel
theorem dX11_isThere_11 : decode cX11_isThere 11 = .ok (.ireturn, 1) := by decide +kernel
theorem dX11_isThere_12 : decode cX11_isThere 12 = .ok (.aload_n 0, 1) := by decide +kernel
theorem dX11_isThere_13 : decode cX11_isThere 13 = .ok (.invokevirtual 151, 3) := by decide +kernel
theorem dX11_isThere_16 : decode cX11_isThere 16 = .ok (.iconst 1, 1) := by decide +kernel
theorem dX11_isThere_17 : decode cX11_isThere 17 = .ok (.ireturn, 1) := by decide +kernel
abbrev rmX11_isThere : Room := { frames := 5, cells := 0, slots := 0, locals := 111 }
set_option maxHeartbeats 4000000 in
set_option maxRecDepth 100000 in
theorem kX11_isThere (S : Nat → Nat) (l : Launch) (D : va_G) (cy : Nat → ClassId) (h0 : Nat) (a0 : Nat → Nat) (s0 : Rc) (p1 : Int32) (res : Int32 × Rc) (h : fX11_isThere p1 s0 = some res) : CZ2 S l D cy yX11_isThere wsX11_isThere rmX11_isThere [.ref h0, .int p1] (flat [WX11 cy h0 a0 s0]) (flat [WX11 cy h0 a0 res.2]) res.1 := by
  refine CZ2.of (cc := cX11_isThere) (maxL := 2) (by decide) rfl (Nat.le_of_ble_eq_true rfl) ?_
  intro p e s m args below meth c A QQ ls E hX hr
  obtain ⟨hx, hb, hml, hown, hts, hK, hN, hP, hD, hA, hl⟩ := E
  have hret : ∀ (pc : Nat) (H : Heap) (locs : List Loc) (ls : Array Slot) (u : Int32 × Rc), u = res → va_P D vwCl (flat [WX11 cy h0 a0 u.2]) H → va_D A (flat [WX11 cy h0 a0 u.2]) → va_S A s.heap H locs → isb u.1 = true → decode cX11_isThere pc = .ok (.ireturn, 1) → W p l e rmX11_isThere s m args below meth c H locs 0 0 QQ (F0 m pc ls [.int u.1]) := by
    intro pc H locs ls u hu hP hD hS hz hd; subst hu; exact hr pc H locs ls _ rfl hP hD hS hz hd
  clear hr
  have hl : lv_has ls 2 [(0, .ref h0), (1, .int p1)] := hl
  unfold fX11_isThere at h
  suffices key : ∀ (H : Heap) (locs : List Loc), va_P D vwCl (flat [WX11 cy h0 a0 s0]) H → va_S A s.heap H locs → W p l e rmX11_isThere s m args below meth c H locs 0 0 QQ (F0 m 0 ls []) from key _ _ hP va_S.rf
  clear hP
  intro H locs hP hS
  refine lv_aload_n hx hb dX11_isThere_0 rfl (lv_at hl 0 rfl) ?_
  refine va_ldcS hx hb hown hX.1.2 dX11_isThere_1 ?_
  obtain ⟨r1, hr1, h⟩ := bd_elim h
  refine ca_i (w' := [WX11 cy h0 a0 s0]) (rn_V2 (As := [.ref (S 2)]) (rest := []) ⟨hx, hb, hml, hown, hts⟩ (kX11_inWords S l D cy h0 a0 s0 r1 hr1 H.size) (cwV 1 hts gX11_isThere_X11_inWords rfl rfl rfl (by decide +kernel) ⟨Nat.le_of_ble_eq_true rfl, Nat.le_of_ble_eq_true rfl⟩) hK hN hX hP hD hS hA [0] rfl rfl (ci := 11) (q0 := 0) rfl rfl rfl rfl hl.1 rfl (Nat.le_of_ble_eq_true rfl) dX11_isThere_3 ⟨Nat.le_refl 0, Nat.le_refl 0⟩) hP hD hS hA [0] ⟨rfl, rfl, rfl, rfl⟩ (fun H locs hP hD hS => ?_)
  refine lv_iload_n hx hb dX11_isThere_6 rfl (lv_at hl 1 rfl) ?_
  refine lv_icmp_eq (tgt := 12) hx hb dX11_isThere_7 (by decide) (fun c2 => ?_) (fun c2 => ?_)
  · replace h := (if_pos c2).symm.trans h
    refine lv_aload_n hx hb dX11_isThere_12 rfl (lv_at hl 0 rfl) ?_
    obtain ⟨r3, hr3, h⟩ := bd_elim h
    refine ca_v (w' := [WX11 cy h0 a0 r3]) (rn_V (As := []) (rest := []) ⟨hx, hb, hml, hown, hts⟩ (kX11_ahead l D cy h0 a0 s0 r3 hr3 H.size) (cwV 0 hts gX11_isThere_X11_ahead rfl rfl rfl (by decide +kernel) ⟨Nat.le_of_ble_eq_true rfl, Nat.le_of_ble_eq_true rfl⟩) hK hN hP hD [0] rfl rfl (ci := 11) (q0 := 0) rfl rfl rfl rfl hl.1 rfl (Nat.le_of_ble_eq_true rfl) dX11_isThere_13 ⟨Nat.le_refl 0, Nat.le_refl 0⟩) hP hD hS hA [0] ⟨rfl, rfl, rfl, rfl⟩ (fun H locs hP hD hS => ?_)
    refine lv_iconst (v := 1) hx hb dX11_isThere_16 (by decide) ?_
    exact hret 17 H locs ls ((1 : Int32), r3) (Option.some.inj h) hP hD hS (show isb (1 : Int32) = true by decide) dX11_isThere_17
  · replace h := (if_neg c2).symm.trans h
    refine lv_iconst (v := 0) hx hb dX11_isThere_10 (by decide) ?_
    exact hret 11 H locs ls ((0 : Int32), s0) (Option.some.inj h) hP hD hS (show isb (0 : Int32) = true by decide) dX11_isThere_11
set_option maxRecDepth 20000 in
theorem ggX11_aFarmer_X11_farmerRow : GoodIn wsX11_aFarmer wsX11_farmerRow := goodIn_r _ [7] (by decide +kernel) (by decide +kernel)
set_option maxRecDepth 20000 in
theorem gX11_aFarmer_X11_farmerRow : GoodIn wsX11_aFarmer (va_wsS RX11 177 yX11_farmerRow wsX11_farmerRow) := goodIn_app (goodIn_of _ (by decide +kernel)) ggX11_aFarmer_X11_farmerRow
set_option maxRecDepth 20000 in
theorem ggX11_aFarmer_X11_fails : GoodIn wsX11_aFarmer wsX11_fails := goodIn_r _ [11, 12, 13, 14, 15, 116, 117, 118, 119, 120, 121, 122, 123, 124, 125, 126, 127, 128, 129, 130, 131, 132, 133, 134, 135, 136, 137, 138, 139, 140, 141, 142, 143, 144, 145, 146, 147, 148, 149, 150, 151, 152, 153] (by decide +kernel) (by decide +kernel)
set_option maxRecDepth 20000 in
theorem gX11_aFarmer_X11_fails : GoodIn wsX11_aFarmer (wsV RX11 157 RX11 yX11_fails wsX11_fails) := goodIn_app (goodIn_of _ (by decide +kernel)) ggX11_aFarmer_X11_fails
set_option maxRecDepth 20000 in
theorem ggX11_aFarmer_X11_ahead : GoodIn wsX11_aFarmer wsX11_ahead := goodIn_r _ [19, 20, 14, 21, 13, 22, 23, 24, 25, 26, 27, 28, 29, 6, 30, 31, 32, 33, 34, 35, 36, 37, 38, 116, 117, 118, 119, 120, 121, 122, 123, 124, 125, 126, 127, 128, 129, 130, 131, 132, 133, 134, 135, 136, 137, 138, 139, 140, 141, 142, 143, 144, 145, 146, 147, 148, 149, 150, 151, 152, 153] (by decide +kernel) (by decide +kernel)
set_option maxRecDepth 20000 in
theorem gX11_aFarmer_X11_ahead : GoodIn wsX11_aFarmer (wsV RX11 151 RX11 yX11_ahead wsX11_ahead) := goodIn_app (goodIn_of _ (by decide +kernel)) ggX11_aFarmer_X11_ahead
set_option maxRecDepth 20000 in
theorem ggX11_aFarmer_X11_isName : GoodIn wsX11_aFarmer wsX11_isName := goodIn_r _ [42, 13, 20, 14, 43, 44, 45, 6, 46, 47, 48, 49, 50, 51, 52, 53, 54, 55, 56, 57, 58, 59, 60, 61, 62, 63, 64, 65, 66, 67, 68, 69, 70, 71, 72, 73, 74, 75, 76, 77, 78, 79, 80, 81, 82, 83, 84, 85, 86, 87, 88, 89, 90, 91, 92, 93, 94, 95, 27, 28, 29, 30, 31, 32, 116, 117, 118, 119, 120, 121, 122, 123, 124, 125, 126, 127, 128, 129, 130, 131, 132, 133, 134, 135, 136, 137, 138, 139, 140, 141, 142, 143, 144, 145, 146, 147, 148, 149, 150, 151, 152, 153] (by decide +kernel) (by decide +kernel)
set_option maxRecDepth 20000 in
theorem gX11_aFarmer_X11_isName : GoodIn wsX11_aFarmer (wsV RX11 170 RX11 yX11_isName wsX11_isName) := goodIn_app (goodIn_of _ (by decide +kernel)) ggX11_aFarmer_X11_isName
set_option maxRecDepth 20000 in
theorem ggX11_aFarmer_X11_findHere : GoodIn wsX11_aFarmer wsX11_findHere := goodIn_r _ [99, 2, 100, 101, 102, 6, 103, 14, 20, 27, 28, 29, 30, 31, 32, 116, 117, 118, 119, 120, 121, 122, 123, 124, 125, 126, 127, 128, 129, 130, 131, 132, 133, 134, 135, 136, 137, 138, 139, 140, 141, 142, 143, 144, 145, 146, 147, 148, 149, 150, 151, 152, 153] (by decide +kernel) (by decide +kernel)
set_option maxRecDepth 20000 in
theorem gX11_aFarmer_X11_findHere : GoodIn wsX11_aFarmer (wsV RX11 174 RX11 yX11_findHere wsX11_findHere) := goodIn_app (goodIn_of _ (by decide +kernel)) ggX11_aFarmer_X11_findHere
set_option maxRecDepth 20000 in
theorem ggX11_aFarmer_X11_nameHere : GoodIn wsX11_aFarmer wsX11_nameHere := goodIn_r _ [103, 14, 20, 27, 28, 29, 6, 30, 31, 32, 116, 117, 118, 119, 120, 121, 122, 123, 124, 125, 126, 127, 128, 129, 130, 131, 132, 133, 134, 135, 136, 137, 138, 139, 140, 141, 142, 143, 144, 145, 146, 147, 148, 149, 150, 151, 152, 153] (by decide +kernel) (by decide +kernel)
set_option maxRecDepth 20000 in
theorem gX11_aFarmer_X11_nameHere : GoodIn wsX11_aFarmer (wsV RX11 164 RX11 yX11_nameHere wsX11_nameHere) := goodIn_app (goodIn_of _ (by decide +kernel)) ggX11_aFarmer_X11_nameHere
set_option maxRecDepth 20000 in
theorem ggX11_aFarmer_X11_inWords : GoodIn wsX11_aFarmer wsX11_inWords := goodIn_r _ [46, 13, 20, 14, 47, 48, 49, 50, 51, 52, 53, 54, 55, 56, 57, 58, 59, 60, 61, 62, 63, 64, 65, 66, 67, 68, 69, 70, 71, 72, 73, 74, 75, 76, 77, 78, 79, 80, 81, 82, 83, 84, 85, 86, 87, 88, 89, 90, 91, 92, 93, 94, 95, 27, 28, 29, 6, 30, 31, 32, 116, 117, 118, 119, 120, 121, 122, 123, 124, 125, 126, 127, 128, 129, 130, 131, 132, 133, 134, 135, 136, 137, 138, 139, 140, 141, 142, 143, 144, 145, 146, 147, 148, 149, 150, 151, 152, 153] (by decide +kernel) (by decide +kernel)
set_option maxRecDepth 20000 in
theorem gX11_aFarmer_X11_inWords : GoodIn wsX11_aFarmer (wsV RX11 160 RX11 yX11_inWords wsX11_inWords) := goodIn_app (goodIn_of _ (by decide +kernel)) ggX11_aFarmer_X11_inWords
set_option maxRecDepth 20000 in
theorem ggX11_aFarmer_X11_number : GoodIn wsX11_aFarmer wsX11_number := goodIn_r _ [107, 13, 21, 1, 8, 9, 10, 6, 11, 12, 14, 15, 16, 17, 18, 19, 20, 22, 23, 24, 25, 26, 27, 28, 29, 30, 31, 32, 33, 34, 35, 36, 37, 38, 116, 117, 118, 119, 120, 121, 122, 123, 124, 125, 126, 127, 128, 129, 130, 131, 132, 133, 134, 135, 136, 137, 138, 139, 140, 141, 142, 143, 144, 145, 146, 147, 148, 149, 150, 151, 152, 153] (by decide +kernel) (by decide +kernel)
set_option maxRecDepth 20000 in
theorem gX11_aFarmer_X11_number : GoodIn wsX11_aFarmer (wsV RX11 180 RX11 yX11_number wsX11_number) := goodIn_app (goodIn_of _ (by decide +kernel)) ggX11_aFarmer_X11_number
set_option maxRecDepth 20000 in
theorem ggX11_aFarmer_X11_wantWord : GoodIn wsX11_aFarmer wsX11_wantWord := goodIn_r _ [111, 43, 44, 45, 6, 46, 13, 20, 14, 47, 48, 49, 50, 51, 52, 53, 54, 55, 56, 57, 58, 59, 60, 61, 62, 63, 64, 65, 66, 67, 68, 69, 70, 71, 72, 73, 74, 75, 76, 77, 78, 79, 80, 81, 82, 83, 84, 85, 86, 87, 88, 89, 90, 91, 92, 93, 94, 95, 27, 28, 29, 30, 31, 32, 8, 9, 10, 11, 12, 15, 16, 17, 18, 19, 21, 22, 23, 24, 25, 26, 33, 34, 35, 36, 37, 38, 116, 117, 118, 119, 120, 121, 122, 123, 124, 125, 126, 127, 128, 129, 130, 131, 132, 133, 134, 135, 136, 137, 138, 139, 140, 141, 142, 143, 144, 145, 146, 147, 148, 149, 150, 151, 152, 153] (by decide +kernel) (by decide +kernel)
set_option maxRecDepth 20000 in
theorem gX11_aFarmer_X11_wantWord : GoodIn wsX11_aFarmer (wsV RX11 184 RX11 yX11_wantWord wsX11_wantWord) := goodIn_app (goodIn_of _ (by decide +kernel)) ggX11_aFarmer_X11_wantWord
set_option maxRecDepth 20000 in
theorem ggX11_aFarmer_X11_isThere : GoodIn wsX11_aFarmer wsX11_isThere := goodIn_r _ [115, 43, 44, 45, 6, 46, 13, 20, 14, 47, 48, 49, 50, 51, 52, 53, 54, 55, 56, 57, 58, 59, 60, 61, 62, 63, 64, 65, 66, 67, 68, 69, 70, 71, 72, 73, 74, 75, 76, 77, 78, 79, 80, 81, 82, 83, 84, 85, 86, 87, 88, 89, 90, 91, 92, 93, 94, 95, 27, 28, 29, 30, 31, 32, 16, 17, 18, 19, 21, 22, 23, 24, 25, 26, 33, 34, 35, 36, 37, 38, 116, 117, 118, 119, 120, 121, 122, 123, 124, 125, 126, 127, 128, 129, 130, 131, 132, 133, 134, 135, 136, 137, 138, 139, 140, 141, 142, 143, 144, 145, 146, 147, 148, 149, 150, 151, 152, 153] (by decide +kernel) (by decide +kernel)
set_option maxRecDepth 20000 in
theorem gX11_aFarmer_X11_isThere : GoodIn wsX11_aFarmer (wsV RX11 188 RX11 yX11_isThere wsX11_isThere) := goodIn_app (goodIn_of _ (by decide +kernel)) ggX11_aFarmer_X11_isThere
theorem dX11_aFarmer_0 : decode cX11_aFarmer 0 = .ok (.aload_n 0, 1) := by decide +kernel
theorem dX11_aFarmer_1 : decode cX11_aFarmer 1 = .ok (.getfield 7, 3) := by decide +kernel
theorem dX11_aFarmer_4 : decode cX11_aFarmer 4 = .ok (.sipush 4160, 3) := by decide +kernel
theorem dX11_aFarmer_7 : decode cX11_aFarmer 7 = .ok (.iaload, 1) := by decide +kernel
theorem dX11_aFarmer_8 : decode cX11_aFarmer 8 = .ok (.istore_n 1, 1) := by decide +kernel
theorem dX11_aFarmer_9 : decode cX11_aFarmer 9 = .ok (.sipush 4160, 3) := by decide +kernel
theorem dX11_aFarmer_12 : decode cX11_aFarmer 12 = .ok (.iload_n 1, 1) := by decide +kernel
theorem dX11_aFarmer_13 : decode cX11_aFarmer 13 = .ok (.invokestatic 177, 3) := by decide +kernel
theorem dX11_aFarmer_16 : decode cX11_aFarmer 16 = .ok (.istore_n 2, 1) := by decide +kernel
theorem dX11_aFarmer_17 : decode cX11_aFarmer 17 = .ok (.iload_n 1, 1) := by decide +kernel
theorem dX11_aFarmer_18 : decode cX11_aFarmer 18 = .ok (.bipush 8, 2) := by decide +kernel
theorem dX11_aFarmer_20 : decode cX11_aFarmer 20 = .ok (.if_icmp .ne 10, 3) := by decide +kernel
theorem dX11_aFarmer_23 : decode cX11_aFarmer 23 = .ok (.aload_n 0, 1) := by decide +kernel
theorem dX11_aFarmer_24 : decode cX11_aFarmer 24 = .ok (.bipush 6, 2) := by decide +kernel
theorem dX11_aFarmer_26 : decode cX11_aFarmer 26 = .ok (.invokevirtual 157, 3) := by decide +kernel
theorem dX11_aFarmer_29 : decode cX11_aFarmer 29 = .ok (.ireturn, 1) := by decide +kernel
theorem dX11_aFarmer_30 : decode cX11_aFarmer 30 = .ok (.aload_n 0, 1) := by decide +kernel
theorem dX11_aFarmer_31 : decode cX11_aFarmer 31 = .ok (.invokevirtual 151, 3) := by decide +kernel
theorem dX11_aFarmer_34 : decode cX11_aFarmer 34 = .ok (.aload_n 0, 1) := by decide +kernel
theorem dX11_aFarmer_35 : decode cX11_aFarmer 35 = .ok (.ldc 168, 2) := by decide +kernel
theorem dX11_aFarmer_37 : decode cX11_aFarmer 37 = .ok (.invokevirtual 170, 3) := by decide +kernel
theorem dX11_aFarmer_40 : decode cX11_aFarmer 40 = .ok (.ifCond .ne 9, 3) := by decide +kernel
theorem dX11_aFarmer_43 : decode cX11_aFarmer 43 = .ok (.aload_n 0, 1) := by decide +kernel
theorem dX11_aFarmer_44 : decode cX11_aFarmer 44 = .ok (.iconst 2, 1) := by decide +kernel
theorem dX11_aFarmer_45 : decode cX11_aFarmer 45 = .ok (.invokevirtual 157, 3) := by decide +kernel
theorem dX11_aFarmer_48 : decode cX11_aFarmer 48 = .ok (.ireturn, 1) := by decide +kernel
theorem dX11_aFarmer_49 : decode cX11_aFarmer 49 = .ok (.aload_n 0, 1) := by decide +kernel
theorem dX11_aFarmer_50 : decode cX11_aFarmer 50 = .ok (.bipush 32, 2) := by decide +kernel
theorem dX11_aFarmer_52 : decode cX11_aFarmer 52 = .ok (.iload_n 1, 1) := by decide +kernel
theorem dX11_aFarmer_53 : decode cX11_aFarmer 53 = .ok (.invokevirtual 174, 3) := by decide +kernel
theorem dX11_aFarmer_56 : decode cX11_aFarmer 56 = .ok (.iconst (-1), 1) := by decide +kernel
theorem dX11_aFarmer_57 : decode cX11_aFarmer 57 = .ok (.if_icmp .eq 9, 3) := by decide +kernel
theorem dX11_aFarmer_60 : decode cX11_aFarmer 60 = .ok (.aload_n 0, 1) := by decide +kernel
theorem dX11_aFarmer_61 : decode cX11_aFarmer 61 = .ok (.iconst 3, 1) := by decide +kernel
theorem dX11_aFarmer_62 : decode cX11_aFarmer 62 = .ok (.invokevirtual 157, 3) := by decide +kernel
theorem dX11_aFarmer_65 : decode cX11_aFarmer 65 = .ok (.ireturn, 1) := by decide +kernel
theorem dX11_aFarmer_66 : decode cX11_aFarmer 66 = .ok (.aload_n 0, 1) := by decide +kernel
theorem dX11_aFarmer_67 : decode cX11_aFarmer 67 = .ok (.getfield 13, 3) := by decide +kernel
theorem dX11_aFarmer_70 : decode cX11_aFarmer 70 = .ok (.bipush 32, 2) := by decide +kernel
theorem dX11_aFarmer_72 : decode cX11_aFarmer 72 = .ok (.iload_n 1, 1) := by decide +kernel
theorem dX11_aFarmer_73 : decode cX11_aFarmer 73 = .ok (.iadd, 1) := by decide +kernel
theorem dX11_aFarmer_74 : decode cX11_aFarmer 74 = .ok (.aload_n 0, 1) := by decide +kernel
theorem dX11_aFarmer_75 : decode cX11_aFarmer 75 = .ok (.invokevirtual 164, 3) := by decide +kernel
theorem dX11_aFarmer_78 : decode cX11_aFarmer 78 = .ok (.lastore, 1) := by decide +kernel
theorem dX11_aFarmer_79 : decode cX11_aFarmer 79 = .ok (.aload_n 0, 1) := by decide +kernel
theorem dX11_aFarmer_80 : decode cX11_aFarmer 80 = .ok (.invokevirtual 151, 3) := by decide +kernel
theorem dX11_aFarmer_83 : decode cX11_aFarmer 83 = .ok (.aload_n 0, 1) := by decide +kernel
theorem dX11_aFarmer_84 : decode cX11_aFarmer 84 = .ok (.ldc 168, 2) := by decide +kernel
theorem dX11_aFarmer_86 : decode cX11_aFarmer 86 = .ok (.invokevirtual 160, 3) := by decide +kernel
theorem dX11_aFarmer_89 : decode cX11_aFarmer 89 = .ok (.istore_n 3, 1) := by decide +kernel
theorem dX11_aFarmer_90 : decode cX11_aFarmer 90 = .ok (.iload_n 3, 1) := by decide +kernel
theorem dX11_aFarmer_91 : decode cX11_aFarmer 91 = .ok (.iconst 4, 1) := by decide +kernel
theorem dX11_aFarmer_92 : decode cX11_aFarmer 92 = .ok (.if_icmp .eq 14, 3) := by decide +kernel
theorem dX11_aFarmer_95 : decode cX11_aFarmer 95 = .ok (.iload_n 3, 1) := by decide +kernel
theorem dX11_aFarmer_96 : decode cX11_aFarmer 96 = .ok (.iconst 5, 1) := by decide +kernel
theorem dX11_aFarmer_97 : decode cX11_aFarmer 97 = .ok (.if_icmp .eq 9, 3) := by decide +kernel
theorem dX11_aFarmer_100 : decode cX11_aFarmer 100 = .ok (.aload_n 0, 1) := by decide +kernel
theorem dX11_aFarmer_101 : decode cX11_aFarmer 101 = .ok (.iconst 2, 1) := by decide +kernel
theorem dX11_aFarmer_102 : decode cX11_aFarmer 102 = .ok (.invokevirtual 157, 3) := by decide +kernel
theorem dX11_aFarmer_105 : decode cX11_aFarmer 105 = .ok (.ireturn, 1) := by decide +kernel
theorem dX11_aFarmer_106 : decode cX11_aFarmer 106 = .ok (.aload_n 0, 1) := by decide +kernel
theorem dX11_aFarmer_107 : decode cX11_aFarmer 107 = .ok (.invokevirtual 151, 3) := by decide +kernel
theorem dX11_aFarmer_110 : decode cX11_aFarmer 110 = .ok (.aload_n 0, 1) := by decide +kernel
theorem dX11_aFarmer_111 : decode cX11_aFarmer 111 = .ok (.iload_n 2, 1) := by decide +kernel
theorem dX11_aFarmer_112 : decode cX11_aFarmer 112 = .ok (.iload_n 3, 1) := by decide +kernel
theorem dX11_aFarmer_113 : decode cX11_aFarmer 113 = .ok (.iconst 4, 1) := by decide +kernel
theorem dX11_aFarmer_114 : decode cX11_aFarmer 114 = .ok (.if_icmp .ne 7, 3) := by decide +kernel
theorem dX11_aFarmer_117 : decode cX11_aFarmer 117 = .ok (.iconst 0, 1) := by decide +kernel
theorem dX11_aFarmer_118 : decode cX11_aFarmer 118 = .ok (.goto 4, 3) := by decide +kernel
theorem dX11_aFarmer_121 : decode cX11_aFarmer 121 = .ok (.iconst 1, 1) := by decide +kernel
theorem dX11_aFarmer_122 : decode cX11_aFarmer 122 = .ok (.iconst 3, 1) := by decide +kernel
theorem dX11_aFarmer_123 : decode cX11_aFarmer 123 = .ok (.invokevirtual 180, 3) := by decide +kernel
theorem dX11_aFarmer_126 : decode cX11_aFarmer 126 = .ok (.ifCond .ne 5, 3) := by decide +kernel
theorem dX11_aFarmer_129 : decode cX11_aFarmer 129 = .ok (.iconst 0, 1) := by decide +kernel
theorem dX11_aFarmer_130 : decode cX11_aFarmer 130 = .ok (.ireturn, 1) := by decide +kernel
theorem dX11_aFarmer_131 : decode cX11_aFarmer 131 = .ok (.iload_n 3, 1) := by decide +kernel
theorem dX11_aFarmer_132 : decode cX11_aFarmer 132 = .ok (.iconst 5, 1) := by decide +kernel
theorem dX11_aFarmer_133 : decode cX11_aFarmer 133 = .ok (.if_icmp .ne 16, 3) := by decide +kernel
theorem dX11_aFarmer_136 : decode cX11_aFarmer 136 = .ok (.aload_n 0, 1) := by decide +kernel
theorem dX11_aFarmer_137 : decode cX11_aFarmer 137 = .ok (.getfield 7, 3) := by decide +kernel
theorem dX11_aFarmer_140 : decode cX11_aFarmer 140 = .ok (.iload_n 2, 1) := by decide +kernel
theorem dX11_aFarmer_141 : decode cX11_aFarmer 141 = .ok (.aload_n 0, 1) := by decide +kernel
theorem dX11_aFarmer_142 : decode cX11_aFarmer 142 = .ok (.getfield 7, 3) := by decide +kernel
theorem dX11_aFarmer_145 : decode cX11_aFarmer 145 = .ok (.iload_n 2, 1) := by decide +kernel
theorem dX11_aFarmer_146 : decode cX11_aFarmer 146 = .ok (.iaload, 1) := by decide +kernel
theorem dX11_aFarmer_147 : decode cX11_aFarmer 147 = .ok (.ineg, 1) := by decide +kernel
theorem dX11_aFarmer_148 : decode cX11_aFarmer 148 = .ok (.iastore, 1) := by decide +kernel
theorem dX11_aFarmer_149 : decode cX11_aFarmer 149 = .ok (.aload_n 0, 1) := by decide +kernel
theorem dX11_aFarmer_150 : decode cX11_aFarmer 150 = .ok (.ldc 168, 2) := by decide +kernel
theorem dX11_aFarmer_152 : decode cX11_aFarmer 152 = .ok (.bipush 6, 2) := by decide +kernel
theorem dX11_aFarmer_154 : decode cX11_aFarmer 154 = .ok (.invokevirtual 184, 3) := by decide +kernel
theorem dX11_aFarmer_157 : decode cX11_aFarmer 157 = .ok (.ifCond .eq 40, 3) := by decide +kernel
theorem dX11_aFarmer_160 : decode cX11_aFarmer 160 = .ok (.aload_n 0, 1) := by decide +kernel
theorem dX11_aFarmer_161 : decode cX11_aFarmer 161 = .ok (.iload_n 2, 1) := by decide +kernel
theorem dX11_aFarmer_162 : decode cX11_aFarmer 162 = .ok (.iconst 1, 1) := by decide +kernel
theorem dX11_aFarmer_163 : decode cX11_aFarmer 163 = .ok (.iadd, 1) := by decide +kernel
theorem dX11_aFarmer_164 : decode cX11_aFarmer 164 = .ok (.iconst 0, 1) := by decide +kernel
theorem dX11_aFarmer_165 : decode cX11_aFarmer 165 = .ok (.bipush 16, 2) := by decide +kernel
theorem dX11_aFarmer_167 : decode cX11_aFarmer 167 = .ok (.invokevirtual 180, 3) := by decide +kernel
theorem dX11_aFarmer_170 : decode cX11_aFarmer 170 = .ok (.ifCond .eq 27, 3) := by decide +kernel
theorem dX11_aFarmer_173 : decode cX11_aFarmer 173 = .ok (.aload_n 0, 1) := by decide +kernel
theorem dX11_aFarmer_174 : decode cX11_aFarmer 174 = .ok (.ldc 168, 2) := by decide +kernel
theorem dX11_aFarmer_176 : decode cX11_aFarmer 176 = .ok (.bipush 7, 2) := by decide +kernel
theorem dX11_aFarmer_178 : decode cX11_aFarmer 178 = .ok (.invokevirtual 184, 3) := by decide +kernel
theorem dX11_aFarmer_181 : decode cX11_aFarmer 181 = .ok (.ifCond .eq 16, 3) := by decide +kernel
theorem dX11_aFarmer_184 : decode cX11_aFarmer 184 = .ok (.aload_n 0, 1) := by decide +kernel
theorem dX11_aFarmer_185 : decode cX11_aFarmer 185 = .ok (.iload_n 2, 1) := by decide +kernel
theorem dX11_aFarmer_186 : decode cX11_aFarmer 186 = .ok (.iconst 2, 1) := by decide +kernel
theorem dX11_aFarmer_187 : decode cX11_aFarmer 187 = .ok (.iadd, 1) := by decide +kernel
theorem dX11_aFarmer_188 : decode cX11_aFarmer 188 = .ok (.iconst 0, 1) := by decide +kernel
theorem dX11_aFarmer_189 : decode cX11_aFarmer 189 = .ok (.bipush 16, 2) := by decide +kernel
theorem dX11_aFarmer_191 : decode cX11_aFarmer 191 = .ok (.invokevirtual 180, 3) := by decide +kernel
theorem dX11_aFarmer_194 : decode cX11_aFarmer 194 = .ok (.ifCond .ne 5, 3) := by decide +kernel
theorem dX11_aFarmer_197 : decode cX11_aFarmer 197 = .ok (.iconst 0, 1) := by decide +kernel
theorem dX11_aFarmer_198 : decode cX11_aFarmer 198 = .ok (.ireturn, 1) := by decide +kernel
theorem dX11_aFarmer_199 : decode cX11_aFarmer 199 = .ok (.aload_n 0, 1) := by decide +kernel
theorem dX11_aFarmer_200 : decode cX11_aFarmer 200 = .ok (.getfield 7, 3) := by decide +kernel
theorem dX11_aFarmer_203 : decode cX11_aFarmer 203 = .ok (.iload_n 2, 1) := by decide +kernel
theorem dX11_aFarmer_204 : decode cX11_aFarmer 204 = .ok (.iconst 3, 1) := by decide +kernel
theorem dX11_aFarmer_205 : decode cX11_aFarmer 205 = .ok (.iadd, 1) := by decide +kernel
theorem dX11_aFarmer_206 : decode cX11_aFarmer 206 = .ok (.aload_n 0, 1) := by decide +kernel
theorem dX11_aFarmer_207 : decode cX11_aFarmer 207 = .ok (.bipush 8, 2) := by decide +kernel
theorem dX11_aFarmer_209 : decode cX11_aFarmer 209 = .ok (.invokevirtual 188, 3) := by decide +kernel
theorem dX11_aFarmer_212 : decode cX11_aFarmer 212 = .ok (.ifCond .eq 7, 3) := by decide +kernel
theorem dX11_aFarmer_215 : decode cX11_aFarmer 215 = .ok (.iconst 1, 1) := by decide +kernel
theorem dX11_aFarmer_216 : decode cX11_aFarmer 216 = .ok (.goto 4, 3) := by decide +kernel
theorem dX11_aFarmer_219 : decode cX11_aFarmer 219 = .ok (.iconst 0, 1) := by decide +kernel
theorem dX11_aFarmer_220 : decode cX11_aFarmer 220 = .ok (.iastore, 1) := by decide +kernel
theorem dX11_aFarmer_221 : decode cX11_aFarmer 221 = .ok (.aload_n 0, 1) := by decide +kernel
theorem dX11_aFarmer_222 : decode cX11_aFarmer 222 = .ok (.getfield 7, 3) := by decide +kernel
theorem dX11_aFarmer_225 : decode cX11_aFarmer 225 = .ok (.iload_n 2, 1) := by decide +kernel
theorem dX11_aFarmer_226 : decode cX11_aFarmer 226 = .ok (.iconst 4, 1) := by decide +kernel
theorem dX11_aFarmer_227 : decode cX11_aFarmer 227 = .ok (.iadd, 1) := by decide +kernel
theorem dX11_aFarmer_228 : decode cX11_aFarmer 228 = .ok (.ldc 191, 2) := by decide +kernel
theorem dX11_aFarmer_230 : decode cX11_aFarmer 230 = .ok (.iastore, 1) := by decide +kernel
theorem dX11_aFarmer_231 : decode cX11_aFarmer 231 = .ok (.aload_n 0, 1) := by decide +kernel
theorem dX11_aFarmer_232 : decode cX11_aFarmer 232 = .ok (.bipush 9, 2) := by decide +kernel
theorem dX11_aFarmer_234 : decode cX11_aFarmer 234 = .ok (.invokevirtual 188, 3) := by decide +kernel
theorem dX11_aFarmer_237 : decode cX11_aFarmer 237 = .ok (.ifCond .eq 18, 3) := by decide +kernel
theorem dX11_aFarmer_240 : decode cX11_aFarmer 240 = .ok (.aload_n 0, 1) := by decide +kernel
theorem dX11_aFarmer_241 : decode cX11_aFarmer 241 = .ok (.iload_n 2, 1) := by decide +kernel
theorem dX11_aFarmer_242 : decode cX11_aFarmer 242 = .ok (.iconst 4, 1) := by decide +kernel
theorem dX11_aFarmer_243 : decode cX11_aFarmer 243 = .ok (.iadd, 1) := by decide +kernel
theorem dX11_aFarmer_244 : decode cX11_aFarmer 244 = .ok (.iconst 0, 1) := by decide +kernel
theorem dX11_aFarmer_245 : decode cX11_aFarmer 245 = .ok (.bipush 60, 2) := by decide +kernel
theorem dX11_aFarmer_247 : decode cX11_aFarmer 247 = .ok (.invokevirtual 180, 3) := by decide +kernel
theorem dX11_aFarmer_250 : decode cX11_aFarmer 250 = .ok (.ifCond .ne 5, 3) := by decide +kernel
theorem dX11_aFarmer_253 : decode cX11_aFarmer 253 = .ok (.iconst 0, 1) := by decide +kernel
theorem dX11_aFarmer_254 : decode cX11_aFarmer 254 = .ok (.ireturn, 1) := by decide +kernel
theorem dX11_aFarmer_255 : decode cX11_aFarmer 255 = .ok (.aload_n 0, 1) := by decide +kernel
theorem dX11_aFarmer_256 : decode cX11_aFarmer 256 = .ok (.getfield 7, 3) := by decide +kernel
theorem dX11_aFarmer_259 : decode cX11_aFarmer 259 = .ok (.iload_n 2, 1) := by decide +kernel
theorem dX11_aFarmer_260 : decode cX11_aFarmer 260 = .ok (.iconst 5, 1) := by decide +kernel
theorem dX11_aFarmer_261 : decode cX11_aFarmer 261 = .ok (.iadd, 1) := by decide +kernel
theorem dX11_aFarmer_262 : decode cX11_aFarmer 262 = .ok (.bipush 64, 2) := by decide +kernel
theorem dX11_aFarmer_264 : decode cX11_aFarmer 264 = .ok (.iastore, 1) := by decide +kernel
theorem dX11_aFarmer_265 : decode cX11_aFarmer 265 = .ok (.aload_n 0, 1) := by decide +kernel
theorem dX11_aFarmer_266 : decode cX11_aFarmer 266 = .ok (.getfield 7, 3) := by decide +kernel
theorem dX11_aFarmer_269 : decode cX11_aFarmer 269 = .ok (.sipush 4160, 3) := by decide +kernel
theorem dX11_aFarmer_272 : decode cX11_aFarmer 272 = .ok (.dup2, 1) := by decide +kernel
theorem dX11_aFarmer_273 : decode cX11_aFarmer 273 = .ok (.iaload, 1) := by decide +kernel
theorem dX11_aFarmer_274 : decode cX11_aFarmer 274 = .ok (.iconst 1, 1) := by decide +kernel
theorem dX11_aFarmer_275 : decode cX11_aFarmer 275 = .ok (.iadd, 1) := by decide +kernel
theorem dX11_aFarmer_276 : decode cX11_aFarmer 276 = .ok (.iastore, 1) := by decide +kernel
theorem dX11_aFarmer_277 : decode cX11_aFarmer 277 = .ok (.iconst 1, 1) := by decide +kernel
theorem dX11_aFarmer_278 : decode cX11_aFarmer 278 = .ok (.ireturn, 1) := by decide +kernel
abbrev rmX11_aFarmer : Room := { frames := 6, cells := 0, slots := 0, locals := 133 }
set_option maxHeartbeats 4000000 in
set_option maxRecDepth 100000 in
theorem kX11_aFarmer (S : Nat → Nat) (l : Launch) (D : va_G) (cy : Nat → ClassId) (h0 : Nat) (a0 : Nat → Nat) (s0 : Rc) (res : Int32 × Rc) (h : fX11_aFarmer s0 = some res) : CZ2 S l D cy yX11_aFarmer wsX11_aFarmer rmX11_aFarmer [.ref h0] (flat [WX11 cy h0 a0 s0]) (flat [WX11 cy h0 a0 res.2]) res.1 := by
  refine CZ2.of (cc := cX11_aFarmer) (maxL := 4) (by decide) rfl (Nat.le_of_ble_eq_true rfl) ?_
  intro p e s m args below meth c A QQ ls E hX hr
  obtain ⟨hx, hb, hml, hown, hts, hK, hN, hP, hD, hA, hl⟩ := E
  have hret : ∀ (pc : Nat) (H : Heap) (locs : List Loc) (ls : Array Slot) (u : Int32 × Rc), u = res → va_P D vwCl (flat [WX11 cy h0 a0 u.2]) H → va_D A (flat [WX11 cy h0 a0 u.2]) → va_S A s.heap H locs → isb u.1 = true → decode cX11_aFarmer pc = .ok (.ireturn, 1) → W p l e rmX11_aFarmer s m args below meth c H locs 0 0 QQ (F0 m pc ls [.int u.1]) := by
    intro pc H locs ls u hu hP hD hS hz hd; subst hu; exact hr pc H locs ls _ rfl hP hD hS hz hd
  clear hr
  have hl : lv_has ls 4 [(0, .ref h0)] := hl
  have hinX11 : ∀ w ∈ wsX110, w ∈ wsX11_aFarmer := fun _ h => List.mem_cons_of_mem _ (List.mem_append_right _ h)
  unfold fX11_aFarmer at h
  suffices key : ∀ (H : Heap) (locs : List Loc), va_P D vwCl (flat [WX11 cy h0 a0 s0]) H → va_S A s.heap H locs → W p l e rmX11_aFarmer s m args below meth c H locs 0 0 QQ (F0 m 0 ls []) from key _ _ hP va_S.rf
  clear hP
  intro H locs hP hS
  have J255 : ∀ (y255_2 : Int32) (t255_0 : Rc) (H : Heap) (locs : List Loc) (ls : Array Slot), lv_has ls 4 [(0, .ref h0), (2, .int y255_2)] → va_P D vwCl (flat [WX11 cy h0 a0 t255_0]) H → va_D A (flat [WX11 cy h0 a0 t255_0]) → va_S A s.heap H locs → fX11_aFarmer_J255 y255_2 t255_0 = some res → W p l e rmX11_aFarmer s m args below meth c H locs 0 0 QQ (F0 m 255 ls []) := by
    intro y255_2 t255_0 H locs ls hl hP hD hS h
    unfold fX11_aFarmer_J255 at h
    refine lv_aload_n hx hb dX11_aFarmer_255 rfl (lv_at hl 0 rfl) ?_
    refine va_get (D := D) (ci := 11) (v := .ref (a0 0)) (C := RX11) (T := TX11) (N := 38) hx hb hts hinX11 hown hK hP 0 rfl rfl 0 (by decide) (hts (.fieldLink RX11 7 "KneeBenchModel" "at" "[I") (List.mem_of_getElem? (i := 1) rfl)) (fun _ h9 => h9) rfl dX11_aFarmer_256 ?_
    refine lv_iload_n hx hb dX11_aFarmer_259 rfl (lv_at hl 1 rfl) ?_
    refine lv_iconst (v := 5) hx hb dX11_aFarmer_260 (by decide) ?_
    refine lv_iadd hx hb dX11_aFarmer_261 ?_
    refine lv_bipush (v := 64) hx hb dX11_aFarmer_262 (by decide) ?_
    obtain ⟨g1, h⟩ := gd_elim h
    obtain ⟨s0_2, es, h⟩ := lt_elim h
    refine va_iast hx hb hK hP hD hS 1 1 rfl rfl (inb_in g1) dX11_aFarmer_264 (fun H locs hP hD hS => ?_)
    have hP : va_P D vwCl (flat [WX11 cy h0 a0 s0_2]) H := by rw [es]; exact hP
    have hD : va_D A (flat [WX11 cy h0 a0 s0_2]) := by rw [es]; exact hD
    clear es
    refine lv_aload_n hx hb dX11_aFarmer_265 rfl (lv_at hl 0 rfl) ?_
    refine va_get (D := D) (ci := 11) (v := .ref (a0 0)) (C := RX11) (T := TX11) (N := 38) hx hb hts hinX11 hown hK hP 0 rfl rfl 0 (by decide) (hts (.fieldLink RX11 7 "KneeBenchModel" "at" "[I") (List.mem_of_getElem? (i := 1) rfl)) (fun _ h9 => h9) rfl dX11_aFarmer_266 ?_
    refine lv_sipush (v := 4160) hx hb dX11_aFarmer_269 (by decide) ?_
    refine lv_dup2_11 hx hb dX11_aFarmer_272 rfl rfl ?_
    refine va_iald hx hb hK hP 1 1 rfl rfl (inb_in (by decide)) dX11_aFarmer_273 ?_
    refine lv_iconst (v := 1) hx hb dX11_aFarmer_274 (by decide) ?_
    refine lv_iadd hx hb dX11_aFarmer_275 ?_
    obtain ⟨s0_3, es, h⟩ := lt_elim h
    refine va_iast hx hb hK hP hD hS 1 1 rfl rfl (inb_in (by decide)) dX11_aFarmer_276 (fun H locs hP hD hS => ?_)
    have hP : va_P D vwCl (flat [WX11 cy h0 a0 s0_3]) H := by rw [es]; exact hP
    have hD : va_D A (flat [WX11 cy h0 a0 s0_3]) := by rw [es]; exact hD
    clear es
    refine lv_iconst (v := 1) hx hb dX11_aFarmer_277 (by decide) ?_
    exact hret 278 H locs ls ((1 : Int32), s0_3) (Option.some.inj h) hP hD hS (show isb (1 : Int32) = true by decide) dX11_aFarmer_278
  have J220 : ∀ (y220_2 : Int32) (z220_0 : Int32) (z220_1 : Int32) (t220_0 : Rc) (H : Heap) (locs : List Loc) (ls : Array Slot), lv_has ls 4 [(0, .ref h0), (2, .int y220_2)] → va_P D vwCl (flat [WX11 cy h0 a0 t220_0]) H → va_D A (flat [WX11 cy h0 a0 t220_0]) → va_S A s.heap H locs → fX11_aFarmer_J220 y220_2 z220_0 z220_1 t220_0 = some res → W p l e rmX11_aFarmer s m args below meth c H locs 0 0 QQ (F0 m 220 ls [.int z220_0, .int z220_1, .ref (a0 0)]) := by
    intro y220_2 z220_0 z220_1 t220_0 H locs ls hl hP hD hS h
    unfold fX11_aFarmer_J220 at h
    obtain ⟨g4, h⟩ := gd_elim h
    obtain ⟨s0_5, es, h⟩ := lt_elim h
    refine va_iast hx hb hK hP hD hS 1 1 rfl rfl (inb_in g4) dX11_aFarmer_220 (fun H locs hP hD hS => ?_)
    have hP : va_P D vwCl (flat [WX11 cy h0 a0 s0_5]) H := by rw [es]; exact hP
    have hD : va_D A (flat [WX11 cy h0 a0 s0_5]) := by rw [es]; exact hD
    clear es
    refine lv_aload_n hx hb dX11_aFarmer_221 rfl (lv_at hl 0 rfl) ?_
    refine va_get (D := D) (ci := 11) (v := .ref (a0 0)) (C := RX11) (T := TX11) (N := 38) hx hb hts hinX11 hown hK hP 0 rfl rfl 0 (by decide) (hts (.fieldLink RX11 7 "KneeBenchModel" "at" "[I") (List.mem_of_getElem? (i := 1) rfl)) (fun _ h9 => h9) rfl dX11_aFarmer_222 ?_
    refine lv_iload_n hx hb dX11_aFarmer_225 rfl (lv_at hl 1 rfl) ?_
    refine lv_iconst (v := 4) hx hb dX11_aFarmer_226 (by decide) ?_
    refine lv_iadd hx hb dX11_aFarmer_227 ?_
    refine lv_ldc (v := 1000000) hx hb hown (hts (.constant RX11 191 (1000000)) (List.mem_of_getElem? (i := 3) rfl)) dX11_aFarmer_228 ?_
    obtain ⟨g6, h⟩ := gd_elim h
    obtain ⟨s0_7, es, h⟩ := lt_elim h
    refine va_iast hx hb hK hP hD hS 1 1 rfl rfl (inb_in g6) dX11_aFarmer_230 (fun H locs hP hD hS => ?_)
    have hP : va_P D vwCl (flat [WX11 cy h0 a0 s0_7]) H := by rw [es]; exact hP
    have hD : va_D A (flat [WX11 cy h0 a0 s0_7]) := by rw [es]; exact hD
    clear es
    refine lv_aload_n hx hb dX11_aFarmer_231 rfl (lv_at hl 0 rfl) ?_
    refine lv_bipush (v := 9) hx hb dX11_aFarmer_232 (by decide) ?_
    obtain ⟨r8, hr8, h⟩ := bd_elim h
    refine ca_z (w' := [WX11 cy h0 a0 r8.2]) (rn_V2 (As := [.int (9 : Int32)]) (rest := []) ⟨hx, hb, hml, hown, hts⟩ (kX11_isThere S l D cy h0 a0 s0_7 (9 : Int32) r8 hr8 H.size) (cwV 1 hts gX11_aFarmer_X11_isThere rfl rfl rfl (by decide +kernel) ⟨Nat.le_of_ble_eq_true rfl, Nat.le_of_ble_eq_true rfl⟩) hK hN hX hP hD hS hA [0] rfl rfl (ci := 11) (q0 := 0) rfl rfl rfl rfl hl.1 rfl (Nat.le_of_ble_eq_true rfl) dX11_aFarmer_234 ⟨Nat.le_refl 0, Nat.le_refl 0⟩) hP hD hS hA [0] ⟨rfl, rfl, rfl, rfl⟩ (fun b9 H locs hP hD hS => ?_)
    refine lv_if_eq (tgt := 255) hx hb dX11_aFarmer_237 (by decide) (fun c10 => ?_) (fun c10 => ?_)
    · replace h := (if_pos c10).symm.trans h
      exact J255 y220_2 r8.2 H locs ls (lv_sub hl [0, 1] rfl) hP hD hS h
    · replace h := (if_neg c10).symm.trans h
      refine lv_aload_n hx hb dX11_aFarmer_240 rfl (lv_at hl 0 rfl) ?_
      refine lv_iload_n hx hb dX11_aFarmer_241 rfl (lv_at hl 1 rfl) ?_
      refine lv_iconst (v := 4) hx hb dX11_aFarmer_242 (by decide) ?_
      refine lv_iadd hx hb dX11_aFarmer_243 ?_
      refine lv_iconst (v := 0) hx hb dX11_aFarmer_244 (by decide) ?_
      refine lv_bipush (v := 60) hx hb dX11_aFarmer_245 (by decide) ?_
      obtain ⟨r11, hr11, h⟩ := bd_elim h
      refine ca_z (w' := [WX11 cy h0 a0 r11.2]) (rn_V (As := [.int (y220_2 + (4 : Int32)), .int (0 : Int32), .int (60 : Int32)]) (rest := []) ⟨hx, hb, hml, hown, hts⟩ (kX11_number l D cy h0 a0 r8.2 (y220_2 + (4 : Int32)) (0 : Int32) (60 : Int32) r11 hr11 H.size) (cwV 3 hts gX11_aFarmer_X11_number rfl rfl rfl (by decide +kernel) ⟨Nat.le_of_ble_eq_true rfl, Nat.le_of_ble_eq_true rfl⟩) hK hN hP hD [0] rfl rfl (ci := 11) (q0 := 0) rfl rfl rfl rfl hl.1 rfl (Nat.le_of_ble_eq_true rfl) dX11_aFarmer_247 ⟨Nat.le_refl 0, Nat.le_refl 0⟩) hP hD hS hA [0] ⟨rfl, rfl, rfl, rfl⟩ (fun b12 H locs hP hD hS => ?_)
      refine lv_if_ne (tgt := 255) hx hb dX11_aFarmer_250 (by decide) (fun c13 => ?_) (fun c13 => ?_)
      · replace h := (if_neg c13).symm.trans h
        exact J255 y220_2 r11.2 H locs ls (lv_sub hl [0, 1] rfl) hP hD hS h
      · replace h := (if_pos c13).symm.trans h
        refine lv_iconst (v := 0) hx hb dX11_aFarmer_253 (by decide) ?_
        exact hret 254 H locs ls ((0 : Int32), r11.2) (Option.some.inj h) hP hD hS (show isb (0 : Int32) = true by decide) dX11_aFarmer_254
  have J149 : ∀ (y149_2 : Int32) (t149_0 : Rc) (H : Heap) (locs : List Loc) (ls : Array Slot), lv_has ls 4 [(0, .ref h0), (2, .int y149_2)] → va_P D vwCl (flat [WX11 cy h0 a0 t149_0]) H → va_D A (flat [WX11 cy h0 a0 t149_0]) → va_S A s.heap H locs → fX11_aFarmer_J149 y149_2 t149_0 = some res → W p l e rmX11_aFarmer s m args below meth c H locs 0 0 QQ (F0 m 149 ls []) := by
    intro y149_2 t149_0 H locs ls hl hP hD hS h
    unfold fX11_aFarmer_J149 at h
    refine lv_aload_n hx hb dX11_aFarmer_149 rfl (lv_at hl 0 rfl) ?_
    refine va_ldcS hx hb hown hX.1.2 dX11_aFarmer_150 ?_
    refine lv_bipush (v := 6) hx hb dX11_aFarmer_152 (by decide) ?_
    obtain ⟨r14, hr14, h⟩ := bd_elim h
    refine ca_z (w' := [WX11 cy h0 a0 r14.2]) (rn_V2 (As := [.ref (S 2), .int (6 : Int32)]) (rest := []) ⟨hx, hb, hml, hown, hts⟩ (kX11_wantWord S l D cy h0 a0 t149_0 (6 : Int32) r14 hr14 H.size) (cwV 2 hts gX11_aFarmer_X11_wantWord rfl rfl rfl (by decide +kernel) ⟨Nat.le_of_ble_eq_true rfl, Nat.le_of_ble_eq_true rfl⟩) hK hN hX hP hD hS hA [0] rfl rfl (ci := 11) (q0 := 0) rfl rfl rfl rfl hl.1 rfl (Nat.le_of_ble_eq_true rfl) dX11_aFarmer_154 ⟨Nat.le_refl 0, Nat.le_refl 0⟩) hP hD hS hA [0] ⟨rfl, rfl, rfl, rfl⟩ (fun b15 H locs hP hD hS => ?_)
    refine lv_if_eq (tgt := 197) hx hb dX11_aFarmer_157 (by decide) (fun c16 => ?_) (fun c16 => ?_)
    · replace h := (if_pos c16).symm.trans h
      refine lv_iconst (v := 0) hx hb dX11_aFarmer_197 (by decide) ?_
      exact hret 198 H locs ls ((0 : Int32), r14.2) (Option.some.inj h) hP hD hS (show isb (0 : Int32) = true by decide) dX11_aFarmer_198
    · replace h := (if_neg c16).symm.trans h
      refine lv_aload_n hx hb dX11_aFarmer_160 rfl (lv_at hl 0 rfl) ?_
      refine lv_iload_n hx hb dX11_aFarmer_161 rfl (lv_at hl 1 rfl) ?_
      refine lv_iconst (v := 1) hx hb dX11_aFarmer_162 (by decide) ?_
      refine lv_iadd hx hb dX11_aFarmer_163 ?_
      refine lv_iconst (v := 0) hx hb dX11_aFarmer_164 (by decide) ?_
      refine lv_bipush (v := 16) hx hb dX11_aFarmer_165 (by decide) ?_
      obtain ⟨r17, hr17, h⟩ := bd_elim h
      refine ca_z (w' := [WX11 cy h0 a0 r17.2]) (rn_V (As := [.int (y149_2 + (1 : Int32)), .int (0 : Int32), .int (16 : Int32)]) (rest := []) ⟨hx, hb, hml, hown, hts⟩ (kX11_number l D cy h0 a0 r14.2 (y149_2 + (1 : Int32)) (0 : Int32) (16 : Int32) r17 hr17 H.size) (cwV 3 hts gX11_aFarmer_X11_number rfl rfl rfl (by decide +kernel) ⟨Nat.le_of_ble_eq_true rfl, Nat.le_of_ble_eq_true rfl⟩) hK hN hP hD [0] rfl rfl (ci := 11) (q0 := 0) rfl rfl rfl rfl hl.1 rfl (Nat.le_of_ble_eq_true rfl) dX11_aFarmer_167 ⟨Nat.le_refl 0, Nat.le_refl 0⟩) hP hD hS hA [0] ⟨rfl, rfl, rfl, rfl⟩ (fun b18 H locs hP hD hS => ?_)
      refine lv_if_eq (tgt := 197) hx hb dX11_aFarmer_170 (by decide) (fun c19 => ?_) (fun c19 => ?_)
      · replace h := (if_pos c19).symm.trans h
        refine lv_iconst (v := 0) hx hb dX11_aFarmer_197 (by decide) ?_
        exact hret 198 H locs ls ((0 : Int32), r17.2) (Option.some.inj h) hP hD hS (show isb (0 : Int32) = true by decide) dX11_aFarmer_198
      · replace h := (if_neg c19).symm.trans h
        refine lv_aload_n hx hb dX11_aFarmer_173 rfl (lv_at hl 0 rfl) ?_
        refine va_ldcS hx hb hown hX.1.2 dX11_aFarmer_174 ?_
        refine lv_bipush (v := 7) hx hb dX11_aFarmer_176 (by decide) ?_
        obtain ⟨r20, hr20, h⟩ := bd_elim h
        refine ca_z (w' := [WX11 cy h0 a0 r20.2]) (rn_V2 (As := [.ref (S 2), .int (7 : Int32)]) (rest := []) ⟨hx, hb, hml, hown, hts⟩ (kX11_wantWord S l D cy h0 a0 r17.2 (7 : Int32) r20 hr20 H.size) (cwV 2 hts gX11_aFarmer_X11_wantWord rfl rfl rfl (by decide +kernel) ⟨Nat.le_of_ble_eq_true rfl, Nat.le_of_ble_eq_true rfl⟩) hK hN hX hP hD hS hA [0] rfl rfl (ci := 11) (q0 := 0) rfl rfl rfl rfl hl.1 rfl (Nat.le_of_ble_eq_true rfl) dX11_aFarmer_178 ⟨Nat.le_refl 0, Nat.le_refl 0⟩) hP hD hS hA [0] ⟨rfl, rfl, rfl, rfl⟩ (fun b21 H locs hP hD hS => ?_)
        refine lv_if_eq (tgt := 197) hx hb dX11_aFarmer_181 (by decide) (fun c22 => ?_) (fun c22 => ?_)
        · replace h := (if_pos c22).symm.trans h
          refine lv_iconst (v := 0) hx hb dX11_aFarmer_197 (by decide) ?_
          exact hret 198 H locs ls ((0 : Int32), r20.2) (Option.some.inj h) hP hD hS (show isb (0 : Int32) = true by decide) dX11_aFarmer_198
        · replace h := (if_neg c22).symm.trans h
          refine lv_aload_n hx hb dX11_aFarmer_184 rfl (lv_at hl 0 rfl) ?_
          refine lv_iload_n hx hb dX11_aFarmer_185 rfl (lv_at hl 1 rfl) ?_
          refine lv_iconst (v := 2) hx hb dX11_aFarmer_186 (by decide) ?_
          refine lv_iadd hx hb dX11_aFarmer_187 ?_
          refine lv_iconst (v := 0) hx hb dX11_aFarmer_188 (by decide) ?_
          refine lv_bipush (v := 16) hx hb dX11_aFarmer_189 (by decide) ?_
          obtain ⟨r23, hr23, h⟩ := bd_elim h
          refine ca_z (w' := [WX11 cy h0 a0 r23.2]) (rn_V (As := [.int (y149_2 + (2 : Int32)), .int (0 : Int32), .int (16 : Int32)]) (rest := []) ⟨hx, hb, hml, hown, hts⟩ (kX11_number l D cy h0 a0 r20.2 (y149_2 + (2 : Int32)) (0 : Int32) (16 : Int32) r23 hr23 H.size) (cwV 3 hts gX11_aFarmer_X11_number rfl rfl rfl (by decide +kernel) ⟨Nat.le_of_ble_eq_true rfl, Nat.le_of_ble_eq_true rfl⟩) hK hN hP hD [0] rfl rfl (ci := 11) (q0 := 0) rfl rfl rfl rfl hl.1 rfl (Nat.le_of_ble_eq_true rfl) dX11_aFarmer_191 ⟨Nat.le_refl 0, Nat.le_refl 0⟩) hP hD hS hA [0] ⟨rfl, rfl, rfl, rfl⟩ (fun b24 H locs hP hD hS => ?_)
          refine lv_if_ne (tgt := 199) hx hb dX11_aFarmer_194 (by decide) (fun c25 => ?_) (fun c25 => ?_)
          · replace h := (if_neg c25).symm.trans h
            refine lv_aload_n hx hb dX11_aFarmer_199 rfl (lv_at hl 0 rfl) ?_
            refine va_get (D := D) (ci := 11) (v := .ref (a0 0)) (C := RX11) (T := TX11) (N := 38) hx hb hts hinX11 hown hK hP 0 rfl rfl 0 (by decide) (hts (.fieldLink RX11 7 "KneeBenchModel" "at" "[I") (List.mem_of_getElem? (i := 1) rfl)) (fun _ h9 => h9) rfl dX11_aFarmer_200 ?_
            refine lv_iload_n hx hb dX11_aFarmer_203 rfl (lv_at hl 1 rfl) ?_
            refine lv_iconst (v := 3) hx hb dX11_aFarmer_204 (by decide) ?_
            refine lv_iadd hx hb dX11_aFarmer_205 ?_
            refine lv_aload_n hx hb dX11_aFarmer_206 rfl (lv_at hl 0 rfl) ?_
            refine lv_bipush (v := 8) hx hb dX11_aFarmer_207 (by decide) ?_
            obtain ⟨r26, hr26, h⟩ := bd_elim h
            refine ca_z (w' := [WX11 cy h0 a0 r26.2]) (rn_V2 (As := [.int (8 : Int32)]) (rest := [.int (y149_2 + (3 : Int32)), .ref (a0 0)]) ⟨hx, hb, hml, hown, hts⟩ (kX11_isThere S l D cy h0 a0 r23.2 (8 : Int32) r26 hr26 H.size) (cwV 1 hts gX11_aFarmer_X11_isThere rfl rfl rfl (by decide +kernel) ⟨Nat.le_of_ble_eq_true rfl, Nat.le_of_ble_eq_true rfl⟩) hK hN hX hP hD hS hA [0] rfl rfl (ci := 11) (q0 := 0) rfl rfl rfl rfl hl.1 rfl (Nat.le_of_ble_eq_true rfl) dX11_aFarmer_209 ⟨Nat.le_refl 0, Nat.le_refl 0⟩) hP hD hS hA [0] ⟨rfl, rfl, rfl, rfl⟩ (fun b27 H locs hP hD hS => ?_)
            refine lv_if_eq (tgt := 219) hx hb dX11_aFarmer_212 (by decide) (fun c28 => ?_) (fun c28 => ?_)
            · replace h := (if_pos c28).symm.trans h
              refine lv_iconst (v := 0) hx hb dX11_aFarmer_219 (by decide) ?_
              exact J220 y149_2 (0 : Int32) (y149_2 + (3 : Int32)) r26.2 H locs ls (lv_sub hl [0, 1] rfl) hP hD hS h
            · replace h := (if_neg c28).symm.trans h
              refine lv_iconst (v := 1) hx hb dX11_aFarmer_215 (by decide) ?_
              refine lv_goto (tgt := 220) hx hb dX11_aFarmer_216 (by decide) ?_
              exact J220 y149_2 (1 : Int32) (y149_2 + (3 : Int32)) r26.2 H locs ls (lv_sub hl [0, 1] rfl) hP hD hS h
          · replace h := (if_pos c25).symm.trans h
            refine lv_iconst (v := 0) hx hb dX11_aFarmer_197 (by decide) ?_
            exact hret 198 H locs ls ((0 : Int32), r23.2) (Option.some.inj h) hP hD hS (show isb (0 : Int32) = true by decide) dX11_aFarmer_198
  have J122 : ∀ (y122_2 : Int32) (y122_3 : Int32) (z122_0 : Int32) (z122_1 : Int32) (t122_0 : Rc) (H : Heap) (locs : List Loc) (ls : Array Slot), lv_has ls 4 [(0, .ref h0), (2, .int y122_2), (3, .int y122_3)] → va_P D vwCl (flat [WX11 cy h0 a0 t122_0]) H → va_D A (flat [WX11 cy h0 a0 t122_0]) → va_S A s.heap H locs → fX11_aFarmer_J122 y122_2 y122_3 z122_0 z122_1 t122_0 = some res → W p l e rmX11_aFarmer s m args below meth c H locs 0 0 QQ (F0 m 122 ls [.int z122_0, .int z122_1, .ref h0]) := by
    intro y122_2 y122_3 z122_0 z122_1 t122_0 H locs ls hl hP hD hS h
    unfold fX11_aFarmer_J122 at h
    refine lv_iconst (v := 3) hx hb dX11_aFarmer_122 (by decide) ?_
    obtain ⟨r29, hr29, h⟩ := bd_elim h
    refine ca_z (w' := [WX11 cy h0 a0 r29.2]) (rn_V (As := [.int z122_1, .int z122_0, .int (3 : Int32)]) (rest := []) ⟨hx, hb, hml, hown, hts⟩ (kX11_number l D cy h0 a0 t122_0 z122_1 z122_0 (3 : Int32) r29 hr29 H.size) (cwV 3 hts gX11_aFarmer_X11_number rfl rfl rfl (by decide +kernel) ⟨Nat.le_of_ble_eq_true rfl, Nat.le_of_ble_eq_true rfl⟩) hK hN hP hD [0] rfl rfl (ci := 11) (q0 := 0) rfl rfl rfl rfl hl.1 rfl (Nat.le_of_ble_eq_true rfl) dX11_aFarmer_123 ⟨Nat.le_refl 0, Nat.le_refl 0⟩) hP hD hS hA [0] ⟨rfl, rfl, rfl, rfl⟩ (fun b30 H locs hP hD hS => ?_)
    refine lv_if_ne (tgt := 131) hx hb dX11_aFarmer_126 (by decide) (fun c31 => ?_) (fun c31 => ?_)
    · replace h := (if_neg c31).symm.trans h
      refine lv_iload_n hx hb dX11_aFarmer_131 rfl (lv_at hl 2 rfl) ?_
      refine lv_iconst (v := 5) hx hb dX11_aFarmer_132 (by decide) ?_
      refine lv_icmp_ne (tgt := 149) hx hb dX11_aFarmer_133 (by decide) (fun c32 => ?_) (fun c32 => ?_)
      · replace h := (if_neg c32).symm.trans h
        exact J149 y122_2 r29.2 H locs ls (lv_sub hl [0, 1] rfl) hP hD hS h
      · replace h := (if_pos c32).symm.trans h
        refine lv_aload_n hx hb dX11_aFarmer_136 rfl (lv_at hl 0 rfl) ?_
        refine va_get (D := D) (ci := 11) (v := .ref (a0 0)) (C := RX11) (T := TX11) (N := 38) hx hb hts hinX11 hown hK hP 0 rfl rfl 0 (by decide) (hts (.fieldLink RX11 7 "KneeBenchModel" "at" "[I") (List.mem_of_getElem? (i := 1) rfl)) (fun _ h9 => h9) rfl dX11_aFarmer_137 ?_
        refine lv_iload_n hx hb dX11_aFarmer_140 rfl (lv_at hl 1 rfl) ?_
        refine lv_aload_n hx hb dX11_aFarmer_141 rfl (lv_at hl 0 rfl) ?_
        refine va_get (D := D) (ci := 11) (v := .ref (a0 0)) (C := RX11) (T := TX11) (N := 38) hx hb hts hinX11 hown hK hP 0 rfl rfl 0 (by decide) (hts (.fieldLink RX11 7 "KneeBenchModel" "at" "[I") (List.mem_of_getElem? (i := 1) rfl)) (fun _ h9 => h9) rfl dX11_aFarmer_142 ?_
        refine lv_iload_n hx hb dX11_aFarmer_145 rfl (lv_at hl 1 rfl) ?_
        obtain ⟨g33, h⟩ := gd_elim h
        refine va_iald hx hb hK hP 1 1 rfl rfl (inb_in g33) dX11_aFarmer_146 ?_
        refine lv_ineg hx hb dX11_aFarmer_147 ?_
        obtain ⟨s0_34, es, h⟩ := lt_elim h
        refine va_iast hx hb hK hP hD hS 1 1 rfl rfl (inb_in g33) dX11_aFarmer_148 (fun H locs hP hD hS => ?_)
        have hP : va_P D vwCl (flat [WX11 cy h0 a0 s0_34]) H := by rw [es]; exact hP
        have hD : va_D A (flat [WX11 cy h0 a0 s0_34]) := by rw [es]; exact hD
        clear es
        exact J149 y122_2 s0_34 H locs ls (lv_sub hl [0, 1] rfl) hP hD hS h
    · replace h := (if_pos c31).symm.trans h
      refine lv_iconst (v := 0) hx hb dX11_aFarmer_129 (by decide) ?_
      exact hret 130 H locs ls ((0 : Int32), r29.2) (Option.some.inj h) hP hD hS (show isb (0 : Int32) = true by decide) dX11_aFarmer_130
  have J106 : ∀ (y106_2 : Int32) (y106_3 : Int32) (t106_0 : Rc) (H : Heap) (locs : List Loc) (ls : Array Slot), lv_has ls 4 [(0, .ref h0), (2, .int y106_2), (3, .int y106_3)] → va_P D vwCl (flat [WX11 cy h0 a0 t106_0]) H → va_D A (flat [WX11 cy h0 a0 t106_0]) → va_S A s.heap H locs → fX11_aFarmer_J106 y106_2 y106_3 t106_0 = some res → W p l e rmX11_aFarmer s m args below meth c H locs 0 0 QQ (F0 m 106 ls []) := by
    intro y106_2 y106_3 t106_0 H locs ls hl hP hD hS h
    unfold fX11_aFarmer_J106 at h
    refine lv_aload_n hx hb dX11_aFarmer_106 rfl (lv_at hl 0 rfl) ?_
    obtain ⟨r35, hr35, h⟩ := bd_elim h
    refine ca_v (w' := [WX11 cy h0 a0 r35]) (rn_V (As := []) (rest := []) ⟨hx, hb, hml, hown, hts⟩ (kX11_ahead l D cy h0 a0 t106_0 r35 hr35 H.size) (cwV 0 hts gX11_aFarmer_X11_ahead rfl rfl rfl (by decide +kernel) ⟨Nat.le_of_ble_eq_true rfl, Nat.le_of_ble_eq_true rfl⟩) hK hN hP hD [0] rfl rfl (ci := 11) (q0 := 0) rfl rfl rfl rfl hl.1 rfl (Nat.le_of_ble_eq_true rfl) dX11_aFarmer_107 ⟨Nat.le_refl 0, Nat.le_refl 0⟩) hP hD hS hA [0] ⟨rfl, rfl, rfl, rfl⟩ (fun H locs hP hD hS => ?_)
    refine lv_aload_n hx hb dX11_aFarmer_110 rfl (lv_at hl 0 rfl) ?_
    refine lv_iload_n hx hb dX11_aFarmer_111 rfl (lv_at hl 1 rfl) ?_
    refine lv_iload_n hx hb dX11_aFarmer_112 rfl (lv_at hl 2 rfl) ?_
    refine lv_iconst (v := 4) hx hb dX11_aFarmer_113 (by decide) ?_
    refine lv_icmp_ne (tgt := 121) hx hb dX11_aFarmer_114 (by decide) (fun c36 => ?_) (fun c36 => ?_)
    · replace h := (if_neg c36).symm.trans h
      refine lv_iconst (v := 1) hx hb dX11_aFarmer_121 (by decide) ?_
      exact J122 y106_2 y106_3 (1 : Int32) y106_2 r35 H locs ls (lv_sub hl [0, 1, 2] rfl) hP hD hS h
    · replace h := (if_pos c36).symm.trans h
      refine lv_iconst (v := 0) hx hb dX11_aFarmer_117 (by decide) ?_
      refine lv_goto (tgt := 122) hx hb dX11_aFarmer_118 (by decide) ?_
      exact J122 y106_2 y106_3 (0 : Int32) y106_2 r35 H locs ls (lv_sub hl [0, 1, 2] rfl) hP hD hS h
  refine lv_aload_n hx hb dX11_aFarmer_0 rfl (lv_at hl 0 rfl) ?_
  refine va_get (D := D) (ci := 11) (v := .ref (a0 0)) (C := RX11) (T := TX11) (N := 38) hx hb hts hinX11 hown hK hP 0 rfl rfl 0 (by decide) (hts (.fieldLink RX11 7 "KneeBenchModel" "at" "[I") (List.mem_of_getElem? (i := 1) rfl)) (fun _ h9 => h9) rfl dX11_aFarmer_1 ?_
  refine lv_sipush (v := 4160) hx hb dX11_aFarmer_4 (by decide) ?_
  refine va_iald hx hb hK hP 1 1 rfl rfl (inb_in (by decide)) dX11_aFarmer_7 ?_
  refine lv_topi (fun x37 ex37 => ?_)
  replace h := lt_use h x37 ex37
  refine lv_istore_n (lv' := [(1, .int x37), (0, .ref h0)]) hx hb dX11_aFarmer_8 rfl hl (by decide) rfl (fun ls hl => ?_)
  refine lv_sipush (v := 4160) hx hb dX11_aFarmer_9 (by decide) ?_
  refine lv_iload_n hx hb dX11_aFarmer_12 rfl (lv_at hl 0 rfl) ?_
  refine ca_i (w' := [WX11 cy h0 a0 s0]) (rn_S (As := [.int (4160 : Int32), .int x37]) (rest := []) ⟨hx, hb, hml, hown, hts⟩ (kX11_farmerRow l D cy (4160 : Int32) x37 _ rfl H.size) (va_cwS 2 hts gX11_aFarmer_X11_farmerRow rfl rfl rfl (by decide +kernel) ⟨Nat.le_of_ble_eq_true rfl, Nat.le_of_ble_eq_true rfl⟩) hK hN hP hD [] rfl rfl rfl hl.1 rfl (Nat.le_of_ble_eq_true rfl) dX11_aFarmer_13 ⟨Nat.le_refl 0, Nat.le_refl 0⟩) hP hD hS hA [] ⟨rfl, rfl, rfl, rfl⟩ (fun H locs hP hD hS => ?_)
  refine lv_topi (fun x38 ex38 => ?_)
  replace h := lt_use h x38 ex38
  refine lv_istore_n (lv' := [(2, .int x38), (1, .int x37), (0, .ref h0)]) hx hb dX11_aFarmer_16 rfl hl (by decide) rfl (fun ls hl => ?_)
  refine lv_iload_n hx hb dX11_aFarmer_17 rfl (lv_at hl 1 rfl) ?_
  refine lv_bipush (v := 8) hx hb dX11_aFarmer_18 (by decide) ?_
  refine lv_icmp_ne (tgt := 30) hx hb dX11_aFarmer_20 (by decide) (fun c39 => ?_) (fun c39 => ?_)
  · replace h := (if_neg c39).symm.trans h
    refine lv_aload_n hx hb dX11_aFarmer_30 rfl (lv_at hl 2 rfl) ?_
    obtain ⟨r40, hr40, h⟩ := bd_elim h
    refine ca_v (w' := [WX11 cy h0 a0 r40]) (rn_V (As := []) (rest := []) ⟨hx, hb, hml, hown, hts⟩ (kX11_ahead l D cy h0 a0 s0 r40 hr40 H.size) (cwV 0 hts gX11_aFarmer_X11_ahead rfl rfl rfl (by decide +kernel) ⟨Nat.le_of_ble_eq_true rfl, Nat.le_of_ble_eq_true rfl⟩) hK hN hP hD [0] rfl rfl (ci := 11) (q0 := 0) rfl rfl rfl rfl hl.1 rfl (Nat.le_of_ble_eq_true rfl) dX11_aFarmer_31 ⟨Nat.le_refl 0, Nat.le_refl 0⟩) hP hD hS hA [0] ⟨rfl, rfl, rfl, rfl⟩ (fun H locs hP hD hS => ?_)
    refine lv_aload_n hx hb dX11_aFarmer_34 rfl (lv_at hl 2 rfl) ?_
    refine va_ldcS hx hb hown hX.1.2 dX11_aFarmer_35 ?_
    obtain ⟨r41, hr41, h⟩ := bd_elim h
    refine ca_z (w' := [WX11 cy h0 a0 r40]) (rn_V2 (As := [.ref (S 2)]) (rest := []) ⟨hx, hb, hml, hown, hts⟩ (kX11_isName S l D cy h0 a0 r40 r41 hr41 H.size) (cwV 1 hts gX11_aFarmer_X11_isName rfl rfl rfl (by decide +kernel) ⟨Nat.le_of_ble_eq_true rfl, Nat.le_of_ble_eq_true rfl⟩) hK hN hX hP hD hS hA [0] rfl rfl (ci := 11) (q0 := 0) rfl rfl rfl rfl hl.1 rfl (Nat.le_of_ble_eq_true rfl) dX11_aFarmer_37 ⟨Nat.le_refl 0, Nat.le_refl 0⟩) hP hD hS hA [0] ⟨rfl, rfl, rfl, rfl⟩ (fun b42 H locs hP hD hS => ?_)
    refine lv_if_ne (tgt := 49) hx hb dX11_aFarmer_40 (by decide) (fun c43 => ?_) (fun c43 => ?_)
    · replace h := (if_neg c43).symm.trans h
      refine lv_aload_n hx hb dX11_aFarmer_49 rfl (lv_at hl 2 rfl) ?_
      refine lv_bipush (v := 32) hx hb dX11_aFarmer_50 (by decide) ?_
      refine lv_iload_n hx hb dX11_aFarmer_52 rfl (lv_at hl 1 rfl) ?_
      obtain ⟨r44, hr44, h⟩ := bd_elim h
      refine ca_i (w' := [WX11 cy h0 a0 r40]) (rn_V (As := [.int (32 : Int32), .int x37]) (rest := []) ⟨hx, hb, hml, hown, hts⟩ (kX11_findHere l D cy h0 a0 r40 (32 : Int32) x37 r44 hr44 H.size) (cwV 2 hts gX11_aFarmer_X11_findHere rfl rfl rfl (by decide +kernel) ⟨Nat.le_of_ble_eq_true rfl, Nat.le_of_ble_eq_true rfl⟩) hK hN hP hD [0] rfl rfl (ci := 11) (q0 := 0) rfl rfl rfl rfl hl.1 rfl (Nat.le_of_ble_eq_true rfl) dX11_aFarmer_53 ⟨Nat.le_refl 0, Nat.le_refl 0⟩) hP hD hS hA [0] ⟨rfl, rfl, rfl, rfl⟩ (fun H locs hP hD hS => ?_)
      refine lv_iconst (v := -1) hx hb dX11_aFarmer_56 (by decide) ?_
      refine lv_icmp_eq (tgt := 66) hx hb dX11_aFarmer_57 (by decide) (fun c45 => ?_) (fun c45 => ?_)
      · replace h := (if_pos c45).symm.trans h
        refine lv_aload_n hx hb dX11_aFarmer_66 rfl (lv_at hl 2 rfl) ?_
        refine va_get (D := D) (ci := 11) (v := .ref (a0 1)) (C := RX11) (T := TX11) (N := 38) hx hb hts hinX11 hown hK hP 0 rfl rfl 1 (by decide) (hts (.fieldLink RX11 13 "KneeBenchModel" "names" "[J") (List.mem_of_getElem? (i := 2) rfl)) (fun _ h9 => h9) rfl dX11_aFarmer_67 ?_
        refine lv_bipush (v := 32) hx hb dX11_aFarmer_70 (by decide) ?_
        refine lv_iload_n hx hb dX11_aFarmer_72 rfl (lv_at hl 1 rfl) ?_
        refine lv_iadd hx hb dX11_aFarmer_73 ?_
        refine lv_aload_n hx hb dX11_aFarmer_74 rfl (lv_at hl 2 rfl) ?_
        obtain ⟨r46, hr46, h⟩ := bd_elim h
        refine ca_l (w' := [WX11 cy h0 a0 r40]) (rn_V (As := []) (rest := [.int ((32 : Int32) + x37), .ref (a0 1)]) ⟨hx, hb, hml, hown, hts⟩ (kX11_nameHere l D cy h0 a0 r40 r46 hr46 H.size) (cwV 0 hts gX11_aFarmer_X11_nameHere rfl rfl rfl (by decide +kernel) ⟨Nat.le_of_ble_eq_true rfl, Nat.le_of_ble_eq_true rfl⟩) hK hN hP hD [0] rfl rfl (ci := 11) (q0 := 0) rfl rfl rfl rfl hl.1 rfl (Nat.le_of_ble_eq_true rfl) dX11_aFarmer_75 ⟨Nat.le_refl 0, Nat.le_refl 0⟩) hP hD hS hA [0] ⟨rfl, rfl, rfl, rfl⟩ (fun H locs hP hD hS => ?_)
        obtain ⟨g47, h⟩ := gd_elim h
        obtain ⟨s0_48, es, h⟩ := lt_elim h
        refine va_last hx hb hK hP hD hS 2 2 rfl rfl (inb_in g47) dX11_aFarmer_78 (fun H locs hP hD hS => ?_)
        have hP : va_P D vwCl (flat [WX11 cy h0 a0 s0_48]) H := by rw [es]; exact hP
        have hD : va_D A (flat [WX11 cy h0 a0 s0_48]) := by rw [es]; exact hD
        clear es
        refine lv_aload_n hx hb dX11_aFarmer_79 rfl (lv_at hl 2 rfl) ?_
        obtain ⟨r49, hr49, h⟩ := bd_elim h
        refine ca_v (w' := [WX11 cy h0 a0 r49]) (rn_V (As := []) (rest := []) ⟨hx, hb, hml, hown, hts⟩ (kX11_ahead l D cy h0 a0 s0_48 r49 hr49 H.size) (cwV 0 hts gX11_aFarmer_X11_ahead rfl rfl rfl (by decide +kernel) ⟨Nat.le_of_ble_eq_true rfl, Nat.le_of_ble_eq_true rfl⟩) hK hN hP hD [0] rfl rfl (ci := 11) (q0 := 0) rfl rfl rfl rfl hl.1 rfl (Nat.le_of_ble_eq_true rfl) dX11_aFarmer_80 ⟨Nat.le_refl 0, Nat.le_refl 0⟩) hP hD hS hA [0] ⟨rfl, rfl, rfl, rfl⟩ (fun H locs hP hD hS => ?_)
        refine lv_aload_n hx hb dX11_aFarmer_83 rfl (lv_at hl 2 rfl) ?_
        refine va_ldcS hx hb hown hX.1.2 dX11_aFarmer_84 ?_
        obtain ⟨r50, hr50, h⟩ := bd_elim h
        refine ca_i (w' := [WX11 cy h0 a0 r49]) (rn_V2 (As := [.ref (S 2)]) (rest := []) ⟨hx, hb, hml, hown, hts⟩ (kX11_inWords S l D cy h0 a0 r49 r50 hr50 H.size) (cwV 1 hts gX11_aFarmer_X11_inWords rfl rfl rfl (by decide +kernel) ⟨Nat.le_of_ble_eq_true rfl, Nat.le_of_ble_eq_true rfl⟩) hK hN hX hP hD hS hA [0] rfl rfl (ci := 11) (q0 := 0) rfl rfl rfl rfl hl.1 rfl (Nat.le_of_ble_eq_true rfl) dX11_aFarmer_86 ⟨Nat.le_refl 0, Nat.le_refl 0⟩) hP hD hS hA [0] ⟨rfl, rfl, rfl, rfl⟩ (fun H locs hP hD hS => ?_)
        refine lv_istore_n (lv' := [(3, .int r50), (2, .int x38), (1, .int x37), (0, .ref h0)]) hx hb dX11_aFarmer_89 rfl hl (by decide) rfl (fun ls hl => ?_)
        refine lv_iload_n hx hb dX11_aFarmer_90 rfl (lv_at hl 0 rfl) ?_
        refine lv_iconst (v := 4) hx hb dX11_aFarmer_91 (by decide) ?_
        refine lv_icmp_eq (tgt := 106) hx hb dX11_aFarmer_92 (by decide) (fun c51 => ?_) (fun c51 => ?_)
        · replace h := (if_pos c51).symm.trans h
          exact J106 x38 r50 r49 H locs ls (lv_sub hl [3, 1, 0] rfl) hP hD hS h
        · replace h := (if_neg c51).symm.trans h
          refine lv_iload_n hx hb dX11_aFarmer_95 rfl (lv_at hl 0 rfl) ?_
          refine lv_iconst (v := 5) hx hb dX11_aFarmer_96 (by decide) ?_
          refine lv_icmp_eq (tgt := 106) hx hb dX11_aFarmer_97 (by decide) (fun c52 => ?_) (fun c52 => ?_)
          · replace h := (if_pos c52).symm.trans h
            exact J106 x38 r50 r49 H locs ls (lv_sub hl [3, 1, 0] rfl) hP hD hS h
          · replace h := (if_neg c52).symm.trans h
            refine lv_aload_n hx hb dX11_aFarmer_100 rfl (lv_at hl 3 rfl) ?_
            refine lv_iconst (v := 2) hx hb dX11_aFarmer_101 (by decide) ?_
            obtain ⟨r53, hr53, h⟩ := lt_elim h
            refine ca_z (w' := [WX11 cy h0 a0 r53.2]) (rn_V (As := [.int (2 : Int32)]) (rest := []) ⟨hx, hb, hml, hown, hts⟩ (kX11_fails l D cy h0 a0 r49 (2 : Int32) r53 hr53.symm H.size) (cwV 1 hts gX11_aFarmer_X11_fails rfl rfl rfl (by decide +kernel) ⟨Nat.le_of_ble_eq_true rfl, Nat.le_of_ble_eq_true rfl⟩) hK hN hP hD [0] rfl rfl (ci := 11) (q0 := 0) rfl rfl rfl rfl hl.1 rfl (Nat.le_of_ble_eq_true rfl) dX11_aFarmer_102 ⟨Nat.le_refl 0, Nat.le_refl 0⟩) hP hD hS hA [0] ⟨rfl, rfl, rfl, rfl⟩ (fun b54 H locs hP hD hS => ?_)
            exact hret 105 H locs ls (r53.1, r53.2) (Option.some.inj h) hP hD hS b54 dX11_aFarmer_105
      · replace h := (if_neg c45).symm.trans h
        refine lv_aload_n hx hb dX11_aFarmer_60 rfl (lv_at hl 2 rfl) ?_
        refine lv_iconst (v := 3) hx hb dX11_aFarmer_61 (by decide) ?_
        obtain ⟨r55, hr55, h⟩ := lt_elim h
        refine ca_z (w' := [WX11 cy h0 a0 r55.2]) (rn_V (As := [.int (3 : Int32)]) (rest := []) ⟨hx, hb, hml, hown, hts⟩ (kX11_fails l D cy h0 a0 r40 (3 : Int32) r55 hr55.symm H.size) (cwV 1 hts gX11_aFarmer_X11_fails rfl rfl rfl (by decide +kernel) ⟨Nat.le_of_ble_eq_true rfl, Nat.le_of_ble_eq_true rfl⟩) hK hN hP hD [0] rfl rfl (ci := 11) (q0 := 0) rfl rfl rfl rfl hl.1 rfl (Nat.le_of_ble_eq_true rfl) dX11_aFarmer_62 ⟨Nat.le_refl 0, Nat.le_refl 0⟩) hP hD hS hA [0] ⟨rfl, rfl, rfl, rfl⟩ (fun b56 H locs hP hD hS => ?_)
        exact hret 65 H locs ls (r55.1, r55.2) (Option.some.inj h) hP hD hS b56 dX11_aFarmer_65
    · replace h := (if_pos c43).symm.trans h
      refine lv_aload_n hx hb dX11_aFarmer_43 rfl (lv_at hl 2 rfl) ?_
      refine lv_iconst (v := 2) hx hb dX11_aFarmer_44 (by decide) ?_
      obtain ⟨r57, hr57, h⟩ := lt_elim h
      refine ca_z (w' := [WX11 cy h0 a0 r57.2]) (rn_V (As := [.int (2 : Int32)]) (rest := []) ⟨hx, hb, hml, hown, hts⟩ (kX11_fails l D cy h0 a0 r40 (2 : Int32) r57 hr57.symm H.size) (cwV 1 hts gX11_aFarmer_X11_fails rfl rfl rfl (by decide +kernel) ⟨Nat.le_of_ble_eq_true rfl, Nat.le_of_ble_eq_true rfl⟩) hK hN hP hD [0] rfl rfl (ci := 11) (q0 := 0) rfl rfl rfl rfl hl.1 rfl (Nat.le_of_ble_eq_true rfl) dX11_aFarmer_45 ⟨Nat.le_refl 0, Nat.le_refl 0⟩) hP hD hS hA [0] ⟨rfl, rfl, rfl, rfl⟩ (fun b58 H locs hP hD hS => ?_)
      exact hret 48 H locs ls (r57.1, r57.2) (Option.some.inj h) hP hD hS b58 dX11_aFarmer_48
  · replace h := (if_pos c39).symm.trans h
    refine lv_aload_n hx hb dX11_aFarmer_23 rfl (lv_at hl 2 rfl) ?_
    refine lv_bipush (v := 6) hx hb dX11_aFarmer_24 (by decide) ?_
    obtain ⟨r59, hr59, h⟩ := lt_elim h
    refine ca_z (w' := [WX11 cy h0 a0 r59.2]) (rn_V (As := [.int (6 : Int32)]) (rest := []) ⟨hx, hb, hml, hown, hts⟩ (kX11_fails l D cy h0 a0 s0 (6 : Int32) r59 hr59.symm H.size) (cwV 1 hts gX11_aFarmer_X11_fails rfl rfl rfl (by decide +kernel) ⟨Nat.le_of_ble_eq_true rfl, Nat.le_of_ble_eq_true rfl⟩) hK hN hP hD [0] rfl rfl (ci := 11) (q0 := 0) rfl rfl rfl rfl hl.1 rfl (Nat.le_of_ble_eq_true rfl) dX11_aFarmer_26 ⟨Nat.le_refl 0, Nat.le_refl 0⟩) hP hD hS hA [0] ⟨rfl, rfl, rfl, rfl⟩ (fun b60 H locs hP hD hS => ?_)
    exact hret 29 H locs ls (r59.1, r59.2) (Option.some.inj h) hP hD hS b60 dX11_aFarmer_29
