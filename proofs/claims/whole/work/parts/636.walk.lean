theorem gd_X11_ahead : wsX11_ahead.all goodWord = true := by decide +kernel
set_option maxRecDepth 20000 in
theorem ggX11_ahead_X11_byteAt : GoodIn wsX11_ahead wsX11_byteAt := goodIn_by gd_X11_ahead (List.forall_mem_cons.mpr ⟨List.mem_cons_of_mem _ (List.mem_append_left _ (List.mem_of_getElem? (i := 13) rfl)), List.forall_mem_append.mpr ⟨List.forall_mem_cons.mpr ⟨List.mem_cons_of_mem _ (List.mem_append_left _ (List.mem_of_getElem? (i := 14) rfl)), List.forall_mem_cons.mpr ⟨List.mem_cons_of_mem _ (List.mem_append_left _ (List.mem_of_getElem? (i := 15) rfl)), nowords_in⟩⟩, (fun _ h => List.mem_cons_of_mem _ (List.mem_append_right _ (h)))⟩⟩)
set_option maxRecDepth 20000 in
theorem gX11_ahead_X11_byteAt : GoodIn wsX11_ahead (wsV RX11 111 RX11 yX11_byteAt wsX11_byteAt) := goodIn_app (goodIn_by gd_X11_ahead (List.forall_mem_cons.mpr ⟨List.mem_cons_of_mem _ (List.mem_append_left _ (List.mem_of_getElem? (i := 9) rfl)), List.forall_mem_cons.mpr ⟨List.mem_cons_of_mem _ (List.mem_append_left _ (List.mem_of_getElem? (i := 10) rfl)), List.forall_mem_cons.mpr ⟨List.mem_cons_of_mem _ (List.mem_append_left _ (List.mem_of_getElem? (i := 11) rfl)), List.forall_mem_cons.mpr ⟨List.mem_cons_of_mem _ (List.mem_append_left _ (List.mem_of_getElem? (i := 12) rfl)), nowords_in⟩⟩⟩⟩)) ggX11_ahead_X11_byteAt
set_option maxRecDepth 20000 in
theorem ggX11_ahead_X11_isSmall : GoodIn wsX11_ahead wsX11_isSmall := goodIn_by gd_X11_ahead (List.forall_mem_cons.mpr ⟨List.mem_cons_of_mem _ (List.mem_append_left _ (List.mem_of_getElem? (i := 18) rfl)), nowords_in⟩)
set_option maxRecDepth 20000 in
theorem gX11_ahead_X11_isSmall : GoodIn wsX11_ahead (va_wsS RX11 123 yX11_isSmall wsX11_isSmall) := goodIn_app (goodIn_by gd_X11_ahead (List.forall_mem_cons.mpr ⟨List.mem_cons_of_mem _ (List.mem_append_left _ (List.mem_of_getElem? (i := 16) rfl)), List.forall_mem_cons.mpr ⟨List.mem_cons_of_mem _ (List.mem_append_left _ (List.mem_of_getElem? (i := 17) rfl)), List.forall_mem_cons.mpr ⟨List.mem_cons_of_mem _ (List.mem_append_left _ (List.mem_of_getElem? (i := 12) rfl)), nowords_in⟩⟩⟩)) ggX11_ahead_X11_isSmall
set_option maxRecDepth 20000 in
theorem ggX11_ahead_X11_isDigit : GoodIn wsX11_ahead wsX11_isDigit := goodIn_by gd_X11_ahead (List.forall_mem_cons.mpr ⟨List.mem_cons_of_mem _ (List.mem_append_left _ (List.mem_of_getElem? (i := 21) rfl)), nowords_in⟩)
set_option maxRecDepth 20000 in
theorem gX11_ahead_X11_isDigit : GoodIn wsX11_ahead (va_wsS RX11 126 yX11_isDigit wsX11_isDigit) := goodIn_app (goodIn_by gd_X11_ahead (List.forall_mem_cons.mpr ⟨List.mem_cons_of_mem _ (List.mem_append_left _ (List.mem_of_getElem? (i := 19) rfl)), List.forall_mem_cons.mpr ⟨List.mem_cons_of_mem _ (List.mem_append_left _ (List.mem_of_getElem? (i := 20) rfl)), List.forall_mem_cons.mpr ⟨List.mem_cons_of_mem _ (List.mem_append_left _ (List.mem_of_getElem? (i := 12) rfl)), nowords_in⟩⟩⟩)) ggX11_ahead_X11_isDigit
theorem dX11_ahead_0 : decode cX11_ahead 0 = .ok (.aload_n 0, 1) := by decide +kernel
theorem dX11_ahead_1 : decode cX11_ahead 1 = .ok (.aload_n 0, 1) := by decide +kernel
theorem dX11_ahead_2 : decode cX11_ahead 2 = .ok (.getfield 108, 3) := by decide +kernel
theorem dX11_ahead_5 : decode cX11_ahead 5 = .ok (.invokevirtual 111, 3) := by decide +kernel
theorem dX11_ahead_8 : decode cX11_ahead 8 = .ok (.bipush 32, 2) := by decide +kernel
theorem dX11_ahead_10 : decode cX11_ahead 10 = .ok (.if_icmp .eq 16, 3) := by decide +kernel
theorem dX11_ahead_13 : decode cX11_ahead 13 = .ok (.aload_n 0, 1) := by decide +kernel
theorem dX11_ahead_14 : decode cX11_ahead 14 = .ok (.aload_n 0, 1) := by decide +kernel
theorem dX11_ahead_15 : decode cX11_ahead 15 = .ok (.getfield 108, 3) := by decide +kernel
theorem dX11_ahead_18 : decode cX11_ahead 18 = .ok (.invokevirtual 111, 3) := by decide +kernel
theorem dX11_ahead_21 : decode cX11_ahead 21 = .ok (.bipush 10, 2) := by decide +kernel
theorem dX11_ahead_23 : decode cX11_ahead 23 = .ok (.if_icmp .ne 16, 3) := by decide +kernel
theorem dX11_ahead_26 : decode cX11_ahead 26 = .ok (.aload_n 0, 1) := by decide +kernel
theorem dX11_ahead_27 : decode cX11_ahead 27 = .ok (.dup, 1) := by decide +kernel
theorem dX11_ahead_28 : decode cX11_ahead 28 = .ok (.getfield 108, 3) := by decide +kernel
theorem dX11_ahead_31 : decode cX11_ahead 31 = .ok (.iconst 1, 1) := by decide +kernel
theorem dX11_ahead_32 : decode cX11_ahead 32 = .ok (.iadd, 1) := by decide +kernel
theorem dX11_ahead_33 : decode cX11_ahead 33 = .ok (.putfield 108, 3) := by decide +kernel
theorem dX11_ahead_36 : decode cX11_ahead 36 = .ok (.goto (-36), 3) := by decide +kernel
theorem dX11_ahead_39 : decode cX11_ahead 39 = .ok (.aload_n 0, 1) := by decide +kernel
theorem dX11_ahead_40 : decode cX11_ahead 40 = .ok (.aload_n 0, 1) := by decide +kernel
theorem dX11_ahead_41 : decode cX11_ahead 41 = .ok (.getfield 108, 3) := by decide +kernel
theorem dX11_ahead_44 : decode cX11_ahead 44 = .ok (.putfield 114, 3) := by decide +kernel
theorem dX11_ahead_47 : decode cX11_ahead 47 = .ok (.aload_n 0, 1) := by decide +kernel
theorem dX11_ahead_48 : decode cX11_ahead 48 = .ok (.aload_n 0, 1) := by decide +kernel
theorem dX11_ahead_49 : decode cX11_ahead 49 = .ok (.getfield 108, 3) := by decide +kernel
theorem dX11_ahead_52 : decode cX11_ahead 52 = .ok (.invokevirtual 111, 3) := by decide +kernel
theorem dX11_ahead_55 : decode cX11_ahead 55 = .ok (.istore_n 1, 1) := by decide +kernel
theorem dX11_ahead_56 : decode cX11_ahead 56 = .ok (.aload_n 0, 1) := by decide +kernel
theorem dX11_ahead_57 : decode cX11_ahead 57 = .ok (.iload_n 1, 1) := by decide +kernel
theorem dX11_ahead_58 : decode cX11_ahead 58 = .ok (.putfield 117, 3) := by decide +kernel
theorem dX11_ahead_61 : decode cX11_ahead 61 = .ok (.iload_n 1, 1) := by decide +kernel
theorem dX11_ahead_62 : decode cX11_ahead 62 = .ok (.iconst (-1), 1) := by decide +kernel
theorem dX11_ahead_63 : decode cX11_ahead 63 = .ok (.if_icmp .ne 11, 3) := by decide +kernel
theorem dX11_ahead_66 : decode cX11_ahead 66 = .ok (.aload_n 0, 1) := by decide +kernel
theorem dX11_ahead_67 : decode cX11_ahead 67 = .ok (.iconst 0, 1) := by decide +kernel
theorem dX11_ahead_68 : decode cX11_ahead 68 = .ok (.putfield 120, 3) := by decide +kernel
theorem dX11_ahead_71 : decode cX11_ahead 71 = .ok (.goto 180, 3) := by decide +kernel
theorem dX11_ahead_74 : decode cX11_ahead 74 = .ok (.iload_n 1, 1) := by decide +kernel
theorem dX11_ahead_75 : decode cX11_ahead 75 = .ok (.invokestatic 123, 3) := by decide +kernel
theorem dX11_ahead_78 : decode cX11_ahead 78 = .ok (.ifCond .eq 38, 3) := by decide +kernel
theorem dX11_ahead_81 : decode cX11_ahead 81 = .ok (.aload_n 0, 1) := by decide +kernel
theorem dX11_ahead_82 : decode cX11_ahead 82 = .ok (.aload_n 0, 1) := by decide +kernel
theorem dX11_ahead_83 : decode cX11_ahead 83 = .ok (.getfield 108, 3) := by decide +kernel
theorem dX11_ahead_86 : decode cX11_ahead 86 = .ok (.invokevirtual 111, 3) := by decide +kernel
theorem dX11_ahead_89 : decode cX11_ahead 89 = .ok (.invokestatic 123, 3) := by decide +kernel
theorem dX11_ahead_92 : decode cX11_ahead 92 = .ok (.ifCond .eq 16, 3) := by decide +kernel
theorem dX11_ahead_95 : decode cX11_ahead 95 = .ok (.aload_n 0, 1) := by decide +kernel
theorem dX11_ahead_96 : decode cX11_ahead 96 = .ok (.dup, 1) := by decide +kernel
theorem dX11_ahead_97 : decode cX11_ahead 97 = .ok (.getfield 108, 3) := by decide +kernel
theorem dX11_ahead_100 : decode cX11_ahead 100 = .ok (.iconst 1, 1) := by decide +kernel
theorem dX11_ahead_101 : decode cX11_ahead 101 = .ok (.iadd, 1) := by decide +kernel
theorem dX11_ahead_102 : decode cX11_ahead 102 = .ok (.putfield 108, 3) := by decide +kernel
theorem dX11_ahead_105 : decode cX11_ahead 105 = .ok (.goto (-24), 3) := by decide +kernel
theorem dX11_ahead_108 : decode cX11_ahead 108 = .ok (.aload_n 0, 1) := by decide +kernel
theorem dX11_ahead_109 : decode cX11_ahead 109 = .ok (.iconst 2, 1) := by decide +kernel
theorem dX11_ahead_110 : decode cX11_ahead 110 = .ok (.putfield 120, 3) := by decide +kernel
theorem dX11_ahead_113 : decode cX11_ahead 113 = .ok (.goto 138, 3) := by decide +kernel
theorem dX11_ahead_116 : decode cX11_ahead 116 = .ok (.iload_n 1, 1) := by decide +kernel
theorem dX11_ahead_117 : decode cX11_ahead 117 = .ok (.invokestatic 126, 3) := by decide +kernel
theorem dX11_ahead_120 : decode cX11_ahead 120 = .ok (.ifCond .eq 88, 3) := by decide +kernel
theorem dX11_ahead_123 : decode cX11_ahead 123 = .ok (.aload_n 0, 1) := by decide +kernel
theorem dX11_ahead_124 : decode cX11_ahead 124 = .ok (.iconst 0, 1) := by decide +kernel
theorem dX11_ahead_125 : decode cX11_ahead 125 = .ok (.putfield 117, 3) := by decide +kernel
theorem dX11_ahead_128 : decode cX11_ahead 128 = .ok (.aload_n 0, 1) := by decide +kernel
theorem dX11_ahead_129 : decode cX11_ahead 129 = .ok (.aload_n 0, 1) := by decide +kernel
theorem dX11_ahead_130 : decode cX11_ahead 130 = .ok (.getfield 108, 3) := by decide +kernel
theorem dX11_ahead_133 : decode cX11_ahead 133 = .ok (.invokevirtual 111, 3) := by decide +kernel
theorem dX11_ahead_136 : decode cX11_ahead 136 = .ok (.invokestatic 126, 3) := by decide +kernel
theorem dX11_ahead_139 : decode cX11_ahead 139 = .ok (.ifCond .eq 44, 3) := by decide +kernel
theorem dX11_ahead_142 : decode cX11_ahead 142 = .ok (.aload_n 0, 1) := by decide +kernel
theorem dX11_ahead_143 : decode cX11_ahead 143 = .ok (.ldc 129, 2) := by decide +kernel
theorem dX11_ahead_145 : decode cX11_ahead 145 = .ok (.bipush 10, 2) := by decide +kernel
theorem dX11_ahead_147 : decode cX11_ahead 147 = .ok (.aload_n 0, 1) := by decide +kernel
theorem dX11_ahead_148 : decode cX11_ahead 148 = .ok (.getfield 117, 3) := by decide +kernel
theorem dX11_ahead_151 : decode cX11_ahead 151 = .ok (.imul, 1) := by decide +kernel
theorem dX11_ahead_152 : decode cX11_ahead 152 = .ok (.aload_n 0, 1) := by decide +kernel
theorem dX11_ahead_153 : decode cX11_ahead 153 = .ok (.aload_n 0, 1) := by decide +kernel
theorem dX11_ahead_154 : decode cX11_ahead 154 = .ok (.getfield 108, 3) := by decide +kernel
theorem dX11_ahead_157 : decode cX11_ahead 157 = .ok (.invokevirtual 111, 3) := by decide +kernel
theorem dX11_ahead_160 : decode cX11_ahead 160 = .ok (.iadd, 1) := by decide +kernel
theorem dX11_ahead_161 : decode cX11_ahead 161 = .ok (.bipush 48, 2) := by decide +kernel
theorem dX11_ahead_163 : decode cX11_ahead 163 = .ok (.isub, 1) := by decide +kernel
theorem dX11_ahead_164 : decode cX11_ahead 164 = .ok (.invokestatic 130, 3) := by decide +kernel
theorem dX11_ahead_167 : decode cX11_ahead 167 = .ok (.putfield 117, 3) := by decide +kernel
theorem dX11_ahead_170 : decode cX11_ahead 170 = .ok (.aload_n 0, 1) := by decide +kernel
theorem dX11_ahead_171 : decode cX11_ahead 171 = .ok (.dup, 1) := by decide +kernel
theorem dX11_ahead_172 : decode cX11_ahead 172 = .ok (.getfield 108, 3) := by decide +kernel
theorem dX11_ahead_175 : decode cX11_ahead 175 = .ok (.iconst 1, 1) := by decide +kernel
theorem dX11_ahead_176 : decode cX11_ahead 176 = .ok (.iadd, 1) := by decide +kernel
theorem dX11_ahead_177 : decode cX11_ahead 177 = .ok (.putfield 108, 3) := by decide +kernel
theorem dX11_ahead_180 : decode cX11_ahead 180 = .ok (.goto (-52), 3) := by decide +kernel
theorem dX11_ahead_183 : decode cX11_ahead 183 = .ok (.aload_n 0, 1) := by decide +kernel
theorem dX11_ahead_184 : decode cX11_ahead 184 = .ok (.aload_n 0, 1) := by decide +kernel
theorem dX11_ahead_185 : decode cX11_ahead 185 = .ok (.getfield 108, 3) := by decide +kernel
theorem dX11_ahead_188 : decode cX11_ahead 188 = .ok (.aload_n 0, 1) := by decide +kernel
theorem dX11_ahead_189 : decode cX11_ahead 189 = .ok (.getfield 114, 3) := by decide +kernel
theorem dX11_ahead_192 : decode cX11_ahead 192 = .ok (.isub, 1) := by decide +kernel
theorem dX11_ahead_193 : decode cX11_ahead 193 = .ok (.iconst 4, 1) := by decide +kernel
theorem dX11_ahead_194 : decode cX11_ahead 194 = .ok (.if_icmp .le 7, 3) := by decide +kernel
theorem dX11_ahead_197 : decode cX11_ahead 197 = .ok (.iconst 1, 1) := by decide +kernel
theorem dX11_ahead_198 : decode cX11_ahead 198 = .ok (.goto 4, 3) := by decide +kernel
theorem dX11_ahead_201 : decode cX11_ahead 201 = .ok (.iconst 3, 1) := by decide +kernel
theorem dX11_ahead_202 : decode cX11_ahead 202 = .ok (.putfield 120, 3) := by decide +kernel
theorem dX11_ahead_205 : decode cX11_ahead 205 = .ok (.goto 46, 3) := by decide +kernel
theorem dX11_ahead_208 : decode cX11_ahead 208 = .ok (.aload_n 0, 1) := by decide +kernel
theorem dX11_ahead_209 : decode cX11_ahead 209 = .ok (.dup, 1) := by decide +kernel
theorem dX11_ahead_210 : decode cX11_ahead 210 = .ok (.getfield 108, 3) := by decide +kernel
theorem dX11_ahead_213 : decode cX11_ahead 213 = .ok (.iconst 1, 1) := by decide +kernel
theorem dX11_ahead_214 : decode cX11_ahead 214 = .ok (.iadd, 1) := by decide +kernel
theorem dX11_ahead_215 : decode cX11_ahead 215 = .ok (.putfield 108, 3) := by decide +kernel
theorem dX11_ahead_218 : decode cX11_ahead 218 = .ok (.aload_n 0, 1) := by decide +kernel
theorem dX11_ahead_219 : decode cX11_ahead 219 = .ok (.iload_n 1, 1) := by decide +kernel
theorem dX11_ahead_220 : decode cX11_ahead 220 = .ok (.bipush 59, 2) := by decide +kernel
theorem dX11_ahead_222 : decode cX11_ahead 222 = .ok (.if_icmp .eq 21, 3) := by decide +kernel
theorem dX11_ahead_225 : decode cX11_ahead 225 = .ok (.iload_n 1, 1) := by decide +kernel
theorem dX11_ahead_226 : decode cX11_ahead 226 = .ok (.bipush 60, 2) := by decide +kernel
theorem dX11_ahead_228 : decode cX11_ahead 228 = .ok (.if_icmp .eq 15, 3) := by decide +kernel
theorem dX11_ahead_231 : decode cX11_ahead 231 = .ok (.iload_n 1, 1) := by decide +kernel
theorem dX11_ahead_232 : decode cX11_ahead 232 = .ok (.bipush 62, 2) := by decide +kernel
theorem dX11_ahead_234 : decode cX11_ahead 234 = .ok (.if_icmp .eq 9, 3) := by decide +kernel
theorem dX11_ahead_237 : decode cX11_ahead 237 = .ok (.iload_n 1, 1) := by decide +kernel
theorem dX11_ahead_238 : decode cX11_ahead 238 = .ok (.bipush 61, 2) := by decide +kernel
theorem dX11_ahead_240 : decode cX11_ahead 240 = .ok (.if_icmp .ne 7, 3) := by decide +kernel
theorem dX11_ahead_243 : decode cX11_ahead 243 = .ok (.iconst 4, 1) := by decide +kernel
theorem dX11_ahead_244 : decode cX11_ahead 244 = .ok (.goto 4, 3) := by decide +kernel
theorem dX11_ahead_247 : decode cX11_ahead 247 = .ok (.iconst 1, 1) := by decide +kernel
theorem dX11_ahead_248 : decode cX11_ahead 248 = .ok (.putfield 120, 3) := by decide +kernel
theorem dX11_ahead_251 : decode cX11_ahead 251 = .ok (.return_, 1) := by decide +kernel
abbrev rmX11_ahead : Room := { frames := 1, cells := 0, slots := 0, locals := 21 }
set_option maxHeartbeats 4000000 in
set_option maxRecDepth 100000 in
theorem kX11_ahead (l : Launch) (D : va_G) (cy : Nat → ClassId) (h0 : Nat) (a0 : Nat → Nat) (s0 : Rc) (res : Rc) (h : fX11_ahead s0 = some res) : CV l D cy yX11_ahead wsX11_ahead rmX11_ahead [.ref h0] (flat [WX11 cy h0 a0 s0]) (flat [WX11 cy h0 a0 res]) := by
  refine CV.of (cc := cX11_ahead) (maxL := 2) (by decide) rfl (Nat.le_of_ble_eq_true rfl) ?_
  intro p e s m args below meth c A QQ ls E hr
  obtain ⟨hx, hb, hml, hown, hts, hK, hN, hP, hD, hA, hl⟩ := E
  have hret : ∀ (pc : Nat) (H : Heap) (locs : List Loc) (ls : Array Slot) (u : Rc), u = res → va_P D vwCl (flat [WX11 cy h0 a0 u]) H → va_D A (flat [WX11 cy h0 a0 u]) → va_S A s.heap H locs → decode cX11_ahead pc = .ok (.return_, 1) → W p l e rmX11_ahead s m args below meth c H locs 0 0 QQ (F0 m pc ls []) := by
    intro pc H locs ls u hu hP hD hS hd; subst hu; exact hr pc H locs ls hP hD hS hd
  clear hr
  have hl : lv_has ls 2 [(0, .ref h0)] := hl
  have hinX11 : ∀ w ∈ wsX110, w ∈ wsX11_ahead := fun _ h => List.mem_cons_of_mem _ (List.mem_append_right _ h)
  unfold fX11_ahead at h
  suffices key : ∀ (H : Heap) (locs : List Loc), va_P D vwCl (flat [WX11 cy h0 a0 s0]) H → va_S A s.heap H locs → W p l e rmX11_ahead s m args below meth c H locs 0 0 QQ (F0 m 0 ls []) from key _ _ hP va_S.rf
  clear hP
  intro H locs hP hS
  have L0 : ∀ (n : Nat) (q0 : Rc) (o : Rc), loopO (fX11_ahead_L0) n q0 = some o → ∀ (H : Heap) (locs : List Loc) (ls : Array Slot), lv_has ls 2 [(0, .ref h0)] → va_P D vwCl (flat [WX11 cy h0 a0 q0]) H → va_D A (flat [WX11 cy h0 a0 q0]) → va_S A s.heap H locs → ∀ (kk39 : ∀ (H : Heap) (locs : List Loc) (ls : Array Slot), lv_has ls 2 [(0, .ref h0)] → va_P D vwCl (flat [WX11 cy h0 a0 o]) H → va_D A (flat [WX11 cy h0 a0 o]) → va_S A s.heap H locs → W p l e rmX11_ahead s m args below meth c H locs 0 0 QQ (F0 m 39 ls [])), W p l e rmX11_ahead s m args below meth c H locs 0 0 QQ (F0 m 0 ls []) := by
    intro n
    induction n with
    | zero => intro q0 o h; exact absurd h (by rw [loopO_zero]; intro z; cases z)
    | succ n ih =>
      intro q0 o h H locs ls hl hP hD hS kk39
      obtain ⟨w, h, hgo, hst⟩ := loopO_elim h
      unfold fX11_ahead_L0 at h
      refine lv_aload_n hx hb dX11_ahead_0 rfl (lv_at hl 0 rfl) ?_
      refine lv_aload_n hx hb dX11_ahead_1 rfl (lv_at hl 0 rfl) ?_
      refine va_get (D := D) (ci := 11) (v := .int (gi q0 14)) (C := RX11) (T := TX11) (N := 38) hx hb hts hinX11 hown hK hP 0 rfl rfl 14 (by decide) (hts (.fieldLink RX11 108 "KneeBenchModel" "end" "I") (List.mem_of_getElem? (i := 1) rfl)) (fun _ h9 => h9) rfl dX11_ahead_2 ?_
      obtain ⟨r1, hr1, h⟩ := bd_elim h
      refine ca_i (w' := [WX11 cy h0 a0 q0]) (rn_V (As := [.int (gi q0 14)]) (rest := []) ⟨hx, hb, hml, hown, hts⟩ (kX11_byteAt l D cy h0 a0 q0 (gi q0 14) r1 hr1 H.size) (cwV 1 hts gX11_ahead_X11_byteAt rfl rfl rfl (by decide +kernel) ⟨Nat.le_of_ble_eq_true rfl, Nat.le_of_ble_eq_true rfl⟩) hK hN hP hD [0] rfl rfl (ci := 11) (q0 := 0) rfl rfl rfl rfl hl.1 rfl (Nat.le_of_ble_eq_true rfl) dX11_ahead_5 ⟨Nat.le_refl 0, Nat.le_refl 0⟩) hP hD hS hA [0] ⟨rfl, rfl, rfl, rfl⟩ (fun H locs hP hD hS => ?_)
      refine lv_bipush (v := 32) hx hb dX11_ahead_8 (by decide) ?_
      refine lv_icmp_eq (tgt := 26) hx hb dX11_ahead_10 (by decide) (fun c2 => ?_) (fun c2 => ?_)
      · replace h := (if_pos c2).symm.trans h
        refine lv_aload_n hx hb dX11_ahead_26 rfl (lv_at hl 0 rfl) ?_
        refine lv_dup hx hb dX11_ahead_27 rfl ?_
        refine va_get (D := D) (ci := 11) (v := .int (gi q0 14)) (C := RX11) (T := TX11) (N := 38) hx hb hts hinX11 hown hK hP 0 rfl rfl 14 (by decide) (hts (.fieldLink RX11 108 "KneeBenchModel" "end" "I") (List.mem_of_getElem? (i := 1) rfl)) (fun _ h9 => h9) rfl dX11_ahead_28 ?_
        refine lv_iconst (v := 1) hx hb dX11_ahead_31 (by decide) ?_
        refine lv_iadd hx hb dX11_ahead_32 ?_
        obtain ⟨s0_3, es, h⟩ := lt_elim h
        refine va_put (D := D) (ci := 11) (v := .int ((gi q0 14) + (1 : Int32))) (ty := .int) (C := RX11) (T := TX11) (N := 38) hx hb hts hinX11 tyX11 tyX11_ok nmX11 hown hK hP hD hS 0 rfl rfl 14 (by decide) (hts (.fieldLink RX11 108 "KneeBenchModel" "end" "I") (List.mem_of_getElem? (i := 1) rfl)) (fun _ h9 => h9) rfl (by decide +kernel) rfl rfl (Nat.le_of_ble_eq_true rfl) dX11_ahead_33 (fun H locs hP hD hS => ?_)
        have hP : va_P D vwCl (flat [WX11 cy h0 a0 s0_3]) H := by rw [es]; exact hP
        have hD : va_D A (flat [WX11 cy h0 a0 s0_3]) := by rw [es]; exact hD
        clear es
        refine lv_goto (tgt := 0) hx hb dX11_ahead_36 (by decide) ?_
        exact ih _ o (hgo _ (Option.some.inj h).symm) H locs ls (lv_sub hl [0] rfl) hP hD hS kk39
      · replace h := (if_neg c2).symm.trans h
        refine lv_aload_n hx hb dX11_ahead_13 rfl (lv_at hl 0 rfl) ?_
        refine lv_aload_n hx hb dX11_ahead_14 rfl (lv_at hl 0 rfl) ?_
        refine va_get (D := D) (ci := 11) (v := .int (gi q0 14)) (C := RX11) (T := TX11) (N := 38) hx hb hts hinX11 hown hK hP 0 rfl rfl 14 (by decide) (hts (.fieldLink RX11 108 "KneeBenchModel" "end" "I") (List.mem_of_getElem? (i := 1) rfl)) (fun _ h9 => h9) rfl dX11_ahead_15 ?_
        obtain ⟨r4, hr4, h⟩ := bd_elim h
        refine ca_i (w' := [WX11 cy h0 a0 q0]) (rn_V (As := [.int (gi q0 14)]) (rest := []) ⟨hx, hb, hml, hown, hts⟩ (kX11_byteAt l D cy h0 a0 q0 (gi q0 14) r4 hr4 H.size) (cwV 1 hts gX11_ahead_X11_byteAt rfl rfl rfl (by decide +kernel) ⟨Nat.le_of_ble_eq_true rfl, Nat.le_of_ble_eq_true rfl⟩) hK hN hP hD [0] rfl rfl (ci := 11) (q0 := 0) rfl rfl rfl rfl hl.1 rfl (Nat.le_of_ble_eq_true rfl) dX11_ahead_18 ⟨Nat.le_refl 0, Nat.le_refl 0⟩) hP hD hS hA [0] ⟨rfl, rfl, rfl, rfl⟩ (fun H locs hP hD hS => ?_)
        refine lv_bipush (v := 10) hx hb dX11_ahead_21 (by decide) ?_
        refine lv_icmp_ne (tgt := 39) hx hb dX11_ahead_23 (by decide) (fun c5 => ?_) (fun c5 => ?_)
        · replace h := (if_neg c5).symm.trans h
          have eo := hst _ (Option.some.inj h).symm
          subst eo
          exact kk39 H locs ls (lv_sub hl [0] rfl) hP hD hS
        · replace h := (if_pos c5).symm.trans h
          refine lv_aload_n hx hb dX11_ahead_26 rfl (lv_at hl 0 rfl) ?_
          refine lv_dup hx hb dX11_ahead_27 rfl ?_
          refine va_get (D := D) (ci := 11) (v := .int (gi q0 14)) (C := RX11) (T := TX11) (N := 38) hx hb hts hinX11 hown hK hP 0 rfl rfl 14 (by decide) (hts (.fieldLink RX11 108 "KneeBenchModel" "end" "I") (List.mem_of_getElem? (i := 1) rfl)) (fun _ h9 => h9) rfl dX11_ahead_28 ?_
          refine lv_iconst (v := 1) hx hb dX11_ahead_31 (by decide) ?_
          refine lv_iadd hx hb dX11_ahead_32 ?_
          obtain ⟨s0_6, es, h⟩ := lt_elim h
          refine va_put (D := D) (ci := 11) (v := .int ((gi q0 14) + (1 : Int32))) (ty := .int) (C := RX11) (T := TX11) (N := 38) hx hb hts hinX11 tyX11 tyX11_ok nmX11 hown hK hP hD hS 0 rfl rfl 14 (by decide) (hts (.fieldLink RX11 108 "KneeBenchModel" "end" "I") (List.mem_of_getElem? (i := 1) rfl)) (fun _ h9 => h9) rfl (by decide +kernel) rfl rfl (Nat.le_of_ble_eq_true rfl) dX11_ahead_33 (fun H locs hP hD hS => ?_)
          have hP : va_P D vwCl (flat [WX11 cy h0 a0 s0_6]) H := by rw [es]; exact hP
          have hD : va_D A (flat [WX11 cy h0 a0 s0_6]) := by rw [es]; exact hD
          clear es
          refine lv_goto (tgt := 0) hx hb dX11_ahead_36 (by decide) ?_
          exact ih _ o (hgo _ (Option.some.inj h).symm) H locs ls (lv_sub hl [0] rfl) hP hD hS kk39
  obtain ⟨o0, ho0, h⟩ := bd_elim h
  obtain ⟨n0, hn0⟩ := loopF_some ho0
  refine L0 n0 _ o0 hn0 H locs ls (lv_sub hl [0] rfl) hP hD hS (fun H locs ls hl hP hD hS => ?_)
  refine lv_aload_n hx hb dX11_ahead_39 rfl (lv_at hl 0 rfl) ?_
  refine lv_aload_n hx hb dX11_ahead_40 rfl (lv_at hl 0 rfl) ?_
  refine va_get (D := D) (ci := 11) (v := .int (gi o0 14)) (C := RX11) (T := TX11) (N := 38) hx hb hts hinX11 hown hK hP 0 rfl rfl 14 (by decide) (hts (.fieldLink RX11 108 "KneeBenchModel" "end" "I") (List.mem_of_getElem? (i := 1) rfl)) (fun _ h9 => h9) rfl dX11_ahead_41 ?_
  obtain ⟨s0_7, es, h⟩ := lt_elim h
  refine va_put (D := D) (ci := 11) (v := .int (gi o0 14)) (ty := .int) (C := RX11) (T := TX11) (N := 38) hx hb hts hinX11 tyX11 tyX11_ok nmX11 hown hK hP hD hS 0 rfl rfl 13 (by decide) (hts (.fieldLink RX11 114 "KneeBenchModel" "from" "I") (List.mem_of_getElem? (i := 2) rfl)) (fun _ h9 => h9) rfl (by decide +kernel) rfl rfl (Nat.le_of_ble_eq_true rfl) dX11_ahead_44 (fun H locs hP hD hS => ?_)
  have hP : va_P D vwCl (flat [WX11 cy h0 a0 s0_7]) H := by rw [es]; exact hP
  have hD : va_D A (flat [WX11 cy h0 a0 s0_7]) := by rw [es]; exact hD
  clear es
  refine lv_aload_n hx hb dX11_ahead_47 rfl (lv_at hl 0 rfl) ?_
  refine lv_aload_n hx hb dX11_ahead_48 rfl (lv_at hl 0 rfl) ?_
  refine va_get (D := D) (ci := 11) (v := .int (gi s0_7 14)) (C := RX11) (T := TX11) (N := 38) hx hb hts hinX11 hown hK hP 0 rfl rfl 14 (by decide) (hts (.fieldLink RX11 108 "KneeBenchModel" "end" "I") (List.mem_of_getElem? (i := 1) rfl)) (fun _ h9 => h9) rfl dX11_ahead_49 ?_
  obtain ⟨r8, hr8, h⟩ := bd_elim h
  refine ca_i (w' := [WX11 cy h0 a0 s0_7]) (rn_V (As := [.int (gi s0_7 14)]) (rest := []) ⟨hx, hb, hml, hown, hts⟩ (kX11_byteAt l D cy h0 a0 s0_7 (gi s0_7 14) r8 hr8 H.size) (cwV 1 hts gX11_ahead_X11_byteAt rfl rfl rfl (by decide +kernel) ⟨Nat.le_of_ble_eq_true rfl, Nat.le_of_ble_eq_true rfl⟩) hK hN hP hD [0] rfl rfl (ci := 11) (q0 := 0) rfl rfl rfl rfl hl.1 rfl (Nat.le_of_ble_eq_true rfl) dX11_ahead_52 ⟨Nat.le_refl 0, Nat.le_refl 0⟩) hP hD hS hA [0] ⟨rfl, rfl, rfl, rfl⟩ (fun H locs hP hD hS => ?_)
  refine lv_istore_n (lv' := [(1, .int r8), (0, .ref h0)]) hx hb dX11_ahead_55 rfl hl (by decide) rfl (fun ls hl => ?_)
  refine lv_aload_n hx hb dX11_ahead_56 rfl (lv_at hl 1 rfl) ?_
  refine lv_iload_n hx hb dX11_ahead_57 rfl (lv_at hl 0 rfl) ?_
  obtain ⟨s0_9, es, h⟩ := lt_elim h
  refine va_put (D := D) (ci := 11) (v := .int r8) (ty := .int) (C := RX11) (T := TX11) (N := 38) hx hb hts hinX11 tyX11 tyX11_ok nmX11 hown hK hP hD hS 0 rfl rfl 15 (by decide) (hts (.fieldLink RX11 117 "KneeBenchModel" "value" "I") (List.mem_of_getElem? (i := 3) rfl)) (fun _ h9 => h9) rfl (by decide +kernel) rfl rfl (Nat.le_of_ble_eq_true rfl) dX11_ahead_58 (fun H locs hP hD hS => ?_)
  have hP : va_P D vwCl (flat [WX11 cy h0 a0 s0_9]) H := by rw [es]; exact hP
  have hD : va_D A (flat [WX11 cy h0 a0 s0_9]) := by rw [es]; exact hD
  clear es
  refine lv_iload_n hx hb dX11_ahead_61 rfl (lv_at hl 0 rfl) ?_
  refine lv_iconst (v := -1) hx hb dX11_ahead_62 (by decide) ?_
  refine lv_icmp_ne (tgt := 74) hx hb dX11_ahead_63 (by decide) (fun c10 => ?_) (fun c10 => ?_)
  · replace h := (if_neg c10).symm.trans h
    refine lv_iload_n hx hb dX11_ahead_74 rfl (lv_at hl 0 rfl) ?_
    refine ca_z (w' := [WX11 cy h0 a0 s0_9]) (rn_S (As := [.int r8]) (rest := []) ⟨hx, hb, hml, hown, hts⟩ (kX11_isSmall l D cy r8 _ rfl H.size) (va_cwS 1 hts gX11_ahead_X11_isSmall rfl rfl rfl (by decide +kernel) ⟨Nat.le_of_ble_eq_true rfl, Nat.le_of_ble_eq_true rfl⟩) hK hN hP hD [] rfl rfl rfl hl.1 rfl (Nat.le_of_ble_eq_true rfl) dX11_ahead_75 ⟨Nat.le_refl 0, Nat.le_refl 0⟩) hP hD hS hA [] ⟨rfl, rfl, rfl, rfl⟩ (fun b11 H locs hP hD hS => ?_)
    refine lv_if_eq (tgt := 116) hx hb dX11_ahead_78 (by decide) (fun c12 => ?_) (fun c12 => ?_)
    · replace h := (if_pos c12).symm.trans h
      refine lv_iload_n hx hb dX11_ahead_116 rfl (lv_at hl 0 rfl) ?_
      refine ca_z (w' := [WX11 cy h0 a0 s0_9]) (rn_S (As := [.int r8]) (rest := []) ⟨hx, hb, hml, hown, hts⟩ (kX11_isDigit l D cy r8 _ rfl H.size) (va_cwS 1 hts gX11_ahead_X11_isDigit rfl rfl rfl (by decide +kernel) ⟨Nat.le_of_ble_eq_true rfl, Nat.le_of_ble_eq_true rfl⟩) hK hN hP hD [] rfl rfl rfl hl.1 rfl (Nat.le_of_ble_eq_true rfl) dX11_ahead_117 ⟨Nat.le_refl 0, Nat.le_refl 0⟩) hP hD hS hA [] ⟨rfl, rfl, rfl, rfl⟩ (fun b13 H locs hP hD hS => ?_)
      refine lv_if_eq (tgt := 208) hx hb dX11_ahead_120 (by decide) (fun c14 => ?_) (fun c14 => ?_)
      · replace h := (if_pos c14).symm.trans h
        refine lv_aload_n hx hb dX11_ahead_208 rfl (lv_at hl 1 rfl) ?_
        refine lv_dup hx hb dX11_ahead_209 rfl ?_
        refine va_get (D := D) (ci := 11) (v := .int (gi s0_9 14)) (C := RX11) (T := TX11) (N := 38) hx hb hts hinX11 hown hK hP 0 rfl rfl 14 (by decide) (hts (.fieldLink RX11 108 "KneeBenchModel" "end" "I") (List.mem_of_getElem? (i := 1) rfl)) (fun _ h9 => h9) rfl dX11_ahead_210 ?_
        refine lv_iconst (v := 1) hx hb dX11_ahead_213 (by decide) ?_
        refine lv_iadd hx hb dX11_ahead_214 ?_
        obtain ⟨s0_15, es, h⟩ := lt_elim h
        refine va_put (D := D) (ci := 11) (v := .int ((gi s0_9 14) + (1 : Int32))) (ty := .int) (C := RX11) (T := TX11) (N := 38) hx hb hts hinX11 tyX11 tyX11_ok nmX11 hown hK hP hD hS 0 rfl rfl 14 (by decide) (hts (.fieldLink RX11 108 "KneeBenchModel" "end" "I") (List.mem_of_getElem? (i := 1) rfl)) (fun _ h9 => h9) rfl (by decide +kernel) rfl rfl (Nat.le_of_ble_eq_true rfl) dX11_ahead_215 (fun H locs hP hD hS => ?_)
        have hP : va_P D vwCl (flat [WX11 cy h0 a0 s0_15]) H := by rw [es]; exact hP
        have hD : va_D A (flat [WX11 cy h0 a0 s0_15]) := by rw [es]; exact hD
        clear es
        refine lv_aload_n hx hb dX11_ahead_218 rfl (lv_at hl 1 rfl) ?_
        refine lv_iload_n hx hb dX11_ahead_219 rfl (lv_at hl 0 rfl) ?_
        refine lv_bipush (v := 59) hx hb dX11_ahead_220 (by decide) ?_
        refine lv_icmp_eq (tgt := 243) hx hb dX11_ahead_222 (by decide) (fun c16 => ?_) (fun c16 => ?_)
        · replace h := (if_pos c16).symm.trans h
          refine lv_iconst (v := 4) hx hb dX11_ahead_243 (by decide) ?_
          refine lv_goto (tgt := 248) hx hb dX11_ahead_244 (by decide) ?_
          obtain ⟨s0_17, es, h⟩ := lt_elim h
          refine va_put (D := D) (ci := 11) (v := .int (4 : Int32)) (ty := .int) (C := RX11) (T := TX11) (N := 38) hx hb hts hinX11 tyX11 tyX11_ok nmX11 hown hK hP hD hS 0 rfl rfl 12 (by decide) (hts (.fieldLink RX11 120 "KneeBenchModel" "token" "I") (List.mem_of_getElem? (i := 4) rfl)) (fun _ h9 => h9) rfl (by decide +kernel) rfl rfl (Nat.le_of_ble_eq_true rfl) dX11_ahead_248 (fun H locs hP hD hS => ?_)
          have hP : va_P D vwCl (flat [WX11 cy h0 a0 s0_17]) H := by rw [es]; exact hP
          have hD : va_D A (flat [WX11 cy h0 a0 s0_17]) := by rw [es]; exact hD
          clear es
          exact hret 251 H locs ls s0_17 (Option.some.inj h) hP hD hS dX11_ahead_251
        · replace h := (if_neg c16).symm.trans h
          refine lv_iload_n hx hb dX11_ahead_225 rfl (lv_at hl 0 rfl) ?_
          refine lv_bipush (v := 60) hx hb dX11_ahead_226 (by decide) ?_
          refine lv_icmp_eq (tgt := 243) hx hb dX11_ahead_228 (by decide) (fun c18 => ?_) (fun c18 => ?_)
          · replace h := (if_pos c18).symm.trans h
            refine lv_iconst (v := 4) hx hb dX11_ahead_243 (by decide) ?_
            refine lv_goto (tgt := 248) hx hb dX11_ahead_244 (by decide) ?_
            obtain ⟨s0_19, es, h⟩ := lt_elim h
            refine va_put (D := D) (ci := 11) (v := .int (4 : Int32)) (ty := .int) (C := RX11) (T := TX11) (N := 38) hx hb hts hinX11 tyX11 tyX11_ok nmX11 hown hK hP hD hS 0 rfl rfl 12 (by decide) (hts (.fieldLink RX11 120 "KneeBenchModel" "token" "I") (List.mem_of_getElem? (i := 4) rfl)) (fun _ h9 => h9) rfl (by decide +kernel) rfl rfl (Nat.le_of_ble_eq_true rfl) dX11_ahead_248 (fun H locs hP hD hS => ?_)
            have hP : va_P D vwCl (flat [WX11 cy h0 a0 s0_19]) H := by rw [es]; exact hP
            have hD : va_D A (flat [WX11 cy h0 a0 s0_19]) := by rw [es]; exact hD
            clear es
            exact hret 251 H locs ls s0_19 (Option.some.inj h) hP hD hS dX11_ahead_251
          · replace h := (if_neg c18).symm.trans h
            refine lv_iload_n hx hb dX11_ahead_231 rfl (lv_at hl 0 rfl) ?_
            refine lv_bipush (v := 62) hx hb dX11_ahead_232 (by decide) ?_
            refine lv_icmp_eq (tgt := 243) hx hb dX11_ahead_234 (by decide) (fun c20 => ?_) (fun c20 => ?_)
            · replace h := (if_pos c20).symm.trans h
              refine lv_iconst (v := 4) hx hb dX11_ahead_243 (by decide) ?_
              refine lv_goto (tgt := 248) hx hb dX11_ahead_244 (by decide) ?_
              obtain ⟨s0_21, es, h⟩ := lt_elim h
              refine va_put (D := D) (ci := 11) (v := .int (4 : Int32)) (ty := .int) (C := RX11) (T := TX11) (N := 38) hx hb hts hinX11 tyX11 tyX11_ok nmX11 hown hK hP hD hS 0 rfl rfl 12 (by decide) (hts (.fieldLink RX11 120 "KneeBenchModel" "token" "I") (List.mem_of_getElem? (i := 4) rfl)) (fun _ h9 => h9) rfl (by decide +kernel) rfl rfl (Nat.le_of_ble_eq_true rfl) dX11_ahead_248 (fun H locs hP hD hS => ?_)
              have hP : va_P D vwCl (flat [WX11 cy h0 a0 s0_21]) H := by rw [es]; exact hP
              have hD : va_D A (flat [WX11 cy h0 a0 s0_21]) := by rw [es]; exact hD
              clear es
              exact hret 251 H locs ls s0_21 (Option.some.inj h) hP hD hS dX11_ahead_251
            · replace h := (if_neg c20).symm.trans h
              refine lv_iload_n hx hb dX11_ahead_237 rfl (lv_at hl 0 rfl) ?_
              refine lv_bipush (v := 61) hx hb dX11_ahead_238 (by decide) ?_
              refine lv_icmp_ne (tgt := 247) hx hb dX11_ahead_240 (by decide) (fun c22 => ?_) (fun c22 => ?_)
              · replace h := (if_neg c22).symm.trans h
                refine lv_iconst (v := 1) hx hb dX11_ahead_247 (by decide) ?_
                obtain ⟨s0_23, es, h⟩ := lt_elim h
                refine va_put (D := D) (ci := 11) (v := .int (1 : Int32)) (ty := .int) (C := RX11) (T := TX11) (N := 38) hx hb hts hinX11 tyX11 tyX11_ok nmX11 hown hK hP hD hS 0 rfl rfl 12 (by decide) (hts (.fieldLink RX11 120 "KneeBenchModel" "token" "I") (List.mem_of_getElem? (i := 4) rfl)) (fun _ h9 => h9) rfl (by decide +kernel) rfl rfl (Nat.le_of_ble_eq_true rfl) dX11_ahead_248 (fun H locs hP hD hS => ?_)
                have hP : va_P D vwCl (flat [WX11 cy h0 a0 s0_23]) H := by rw [es]; exact hP
                have hD : va_D A (flat [WX11 cy h0 a0 s0_23]) := by rw [es]; exact hD
                clear es
                exact hret 251 H locs ls s0_23 (Option.some.inj h) hP hD hS dX11_ahead_251
              · replace h := (if_pos c22).symm.trans h
                refine lv_iconst (v := 4) hx hb dX11_ahead_243 (by decide) ?_
                refine lv_goto (tgt := 248) hx hb dX11_ahead_244 (by decide) ?_
                obtain ⟨s0_24, es, h⟩ := lt_elim h
                refine va_put (D := D) (ci := 11) (v := .int (4 : Int32)) (ty := .int) (C := RX11) (T := TX11) (N := 38) hx hb hts hinX11 tyX11 tyX11_ok nmX11 hown hK hP hD hS 0 rfl rfl 12 (by decide) (hts (.fieldLink RX11 120 "KneeBenchModel" "token" "I") (List.mem_of_getElem? (i := 4) rfl)) (fun _ h9 => h9) rfl (by decide +kernel) rfl rfl (Nat.le_of_ble_eq_true rfl) dX11_ahead_248 (fun H locs hP hD hS => ?_)
                have hP : va_P D vwCl (flat [WX11 cy h0 a0 s0_24]) H := by rw [es]; exact hP
                have hD : va_D A (flat [WX11 cy h0 a0 s0_24]) := by rw [es]; exact hD
                clear es
                exact hret 251 H locs ls s0_24 (Option.some.inj h) hP hD hS dX11_ahead_251
      · replace h := (if_neg c14).symm.trans h
        refine lv_aload_n hx hb dX11_ahead_123 rfl (lv_at hl 1 rfl) ?_
        refine lv_iconst (v := 0) hx hb dX11_ahead_124 (by decide) ?_
        obtain ⟨s0_25, es, h⟩ := lt_elim h
        refine va_put (D := D) (ci := 11) (v := .int (0 : Int32)) (ty := .int) (C := RX11) (T := TX11) (N := 38) hx hb hts hinX11 tyX11 tyX11_ok nmX11 hown hK hP hD hS 0 rfl rfl 15 (by decide) (hts (.fieldLink RX11 117 "KneeBenchModel" "value" "I") (List.mem_of_getElem? (i := 3) rfl)) (fun _ h9 => h9) rfl (by decide +kernel) rfl rfl (Nat.le_of_ble_eq_true rfl) dX11_ahead_125 (fun H locs hP hD hS => ?_)
        have hP : va_P D vwCl (flat [WX11 cy h0 a0 s0_25]) H := by rw [es]; exact hP
        have hD : va_D A (flat [WX11 cy h0 a0 s0_25]) := by rw [es]; exact hD
        clear es
        have L128 : ∀ (n : Nat) (q128 : Rc) (o : Rc), loopO (fX11_ahead_L128) n q128 = some o → ∀ (H : Heap) (locs : List Loc) (ls : Array Slot), lv_has ls 2 [(0, .ref h0)] → va_P D vwCl (flat [WX11 cy h0 a0 q128]) H → va_D A (flat [WX11 cy h0 a0 q128]) → va_S A s.heap H locs → ∀ (kk183 : ∀ (H : Heap) (locs : List Loc) (ls : Array Slot), lv_has ls 2 [(0, .ref h0)] → va_P D vwCl (flat [WX11 cy h0 a0 o]) H → va_D A (flat [WX11 cy h0 a0 o]) → va_S A s.heap H locs → W p l e rmX11_ahead s m args below meth c H locs 0 0 QQ (F0 m 183 ls [])), W p l e rmX11_ahead s m args below meth c H locs 0 0 QQ (F0 m 128 ls []) := by
          intro n
          induction n with
          | zero => intro q128 o h; exact absurd h (by rw [loopO_zero]; intro z; cases z)
          | succ n ih =>
            intro q128 o h H locs ls hl hP hD hS kk183
            obtain ⟨w, h, hgo, hst⟩ := loopO_elim h
            unfold fX11_ahead_L128 at h
            refine lv_aload_n hx hb dX11_ahead_128 rfl (lv_at hl 0 rfl) ?_
            refine lv_aload_n hx hb dX11_ahead_129 rfl (lv_at hl 0 rfl) ?_
            refine va_get (D := D) (ci := 11) (v := .int (gi q128 14)) (C := RX11) (T := TX11) (N := 38) hx hb hts hinX11 hown hK hP 0 rfl rfl 14 (by decide) (hts (.fieldLink RX11 108 "KneeBenchModel" "end" "I") (List.mem_of_getElem? (i := 1) rfl)) (fun _ h9 => h9) rfl dX11_ahead_130 ?_
            obtain ⟨r26, hr26, h⟩ := bd_elim h
            refine ca_i (w' := [WX11 cy h0 a0 q128]) (rn_V (As := [.int (gi q128 14)]) (rest := []) ⟨hx, hb, hml, hown, hts⟩ (kX11_byteAt l D cy h0 a0 q128 (gi q128 14) r26 hr26 H.size) (cwV 1 hts gX11_ahead_X11_byteAt rfl rfl rfl (by decide +kernel) ⟨Nat.le_of_ble_eq_true rfl, Nat.le_of_ble_eq_true rfl⟩) hK hN hP hD [0] rfl rfl (ci := 11) (q0 := 0) rfl rfl rfl rfl hl.1 rfl (Nat.le_of_ble_eq_true rfl) dX11_ahead_133 ⟨Nat.le_refl 0, Nat.le_refl 0⟩) hP hD hS hA [0] ⟨rfl, rfl, rfl, rfl⟩ (fun H locs hP hD hS => ?_)
            refine ca_z (w' := [WX11 cy h0 a0 q128]) (rn_S (As := [.int r26]) (rest := []) ⟨hx, hb, hml, hown, hts⟩ (kX11_isDigit l D cy r26 _ rfl H.size) (va_cwS 1 hts gX11_ahead_X11_isDigit rfl rfl rfl (by decide +kernel) ⟨Nat.le_of_ble_eq_true rfl, Nat.le_of_ble_eq_true rfl⟩) hK hN hP hD [] rfl rfl rfl hl.1 rfl (Nat.le_of_ble_eq_true rfl) dX11_ahead_136 ⟨Nat.le_refl 0, Nat.le_refl 0⟩) hP hD hS hA [] ⟨rfl, rfl, rfl, rfl⟩ (fun b27 H locs hP hD hS => ?_)
            refine lv_if_eq (tgt := 183) hx hb dX11_ahead_139 (by decide) (fun c28 => ?_) (fun c28 => ?_)
            · replace h := (if_pos c28).symm.trans h
              have eo := hst _ (Option.some.inj h).symm
              subst eo
              exact kk183 H locs ls (lv_sub hl [0] rfl) hP hD hS
            · replace h := (if_neg c28).symm.trans h
              refine lv_aload_n hx hb dX11_ahead_142 rfl (lv_at hl 0 rfl) ?_
              refine lv_ldc (v := 100000) hx hb hown (hts (.constant RX11 129 (100000)) (List.mem_of_getElem? (i := 5) rfl)) dX11_ahead_143 ?_
              refine lv_bipush (v := 10) hx hb dX11_ahead_145 (by decide) ?_
              refine lv_aload_n hx hb dX11_ahead_147 rfl (lv_at hl 0 rfl) ?_
              refine va_get (D := D) (ci := 11) (v := .int (gi q128 15)) (C := RX11) (T := TX11) (N := 38) hx hb hts hinX11 hown hK hP 0 rfl rfl 15 (by decide) (hts (.fieldLink RX11 117 "KneeBenchModel" "value" "I") (List.mem_of_getElem? (i := 3) rfl)) (fun _ h9 => h9) rfl dX11_ahead_148 ?_
              refine lv_imul hx hb dX11_ahead_151 ?_
              refine lv_aload_n hx hb dX11_ahead_152 rfl (lv_at hl 0 rfl) ?_
              refine lv_aload_n hx hb dX11_ahead_153 rfl (lv_at hl 0 rfl) ?_
              refine va_get (D := D) (ci := 11) (v := .int (gi q128 14)) (C := RX11) (T := TX11) (N := 38) hx hb hts hinX11 hown hK hP 0 rfl rfl 14 (by decide) (hts (.fieldLink RX11 108 "KneeBenchModel" "end" "I") (List.mem_of_getElem? (i := 1) rfl)) (fun _ h9 => h9) rfl dX11_ahead_154 ?_
              obtain ⟨r29, hr29, h⟩ := bd_elim h
              refine ca_i (w' := [WX11 cy h0 a0 q128]) (rn_V (As := [.int (gi q128 14)]) (rest := [.int ((10 : Int32) * (gi q128 15)), .int (100000 : Int32), .ref h0]) ⟨hx, hb, hml, hown, hts⟩ (kX11_byteAt l D cy h0 a0 q128 (gi q128 14) r29 hr29 H.size) (cwV 1 hts gX11_ahead_X11_byteAt rfl rfl rfl (by decide +kernel) ⟨Nat.le_of_ble_eq_true rfl, Nat.le_of_ble_eq_true rfl⟩) hK hN hP hD [0] rfl rfl (ci := 11) (q0 := 0) rfl rfl rfl rfl hl.1 rfl (Nat.le_of_ble_eq_true rfl) dX11_ahead_157 ⟨Nat.le_refl 0, Nat.le_refl 0⟩) hP hD hS hA [0] ⟨rfl, rfl, rfl, rfl⟩ (fun H locs hP hD hS => ?_)
              refine lv_iadd hx hb dX11_ahead_160 ?_
              refine lv_bipush (v := 48) hx hb dX11_ahead_161 (by decide) ?_
              refine lv_isub hx hb dX11_ahead_163 ?_
              refine va_mmin hx hb (hml.trans hl.1.symm) hown (hts (.methodLink RX11 130 Lib.Math.min.name) (List.mem_of_getElem? (i := 6) rfl)) (hts (.static Lib.Math.min.name) (List.mem_of_getElem? (i := 7) rfl)) (hts (.initialized "java/lang/Math") (List.mem_of_getElem? (i := 8) rfl)) (hts (.code Lib.Math.min.name Lib.Math.min.code 2 (some .int)) (List.mem_of_getElem? (i := 9) rfl)) (Nat.le_of_ble_eq_true rfl) (Nat.le_of_ble_eq_true rfl) (Nat.le_refl 0) (Nat.le_refl 0) dX11_ahead_164 ?_
              obtain ⟨s0_30, es, h⟩ := lt_elim h
              refine va_put (D := D) (ci := 11) (v := .int (if ((((10 : Int32) * (gi q128 15)) + r29) - (48 : Int32)) < (100000 : Int32) then ((((10 : Int32) * (gi q128 15)) + r29) - (48 : Int32)) else (100000 : Int32))) (ty := .int) (C := RX11) (T := TX11) (N := 38) hx hb hts hinX11 tyX11 tyX11_ok nmX11 hown hK hP hD hS 0 rfl rfl 15 (by decide) (hts (.fieldLink RX11 117 "KneeBenchModel" "value" "I") (List.mem_of_getElem? (i := 3) rfl)) (fun _ h9 => h9) rfl (by decide +kernel) rfl rfl (Nat.le_of_ble_eq_true rfl) dX11_ahead_167 (fun H locs hP hD hS => ?_)
              have hP : va_P D vwCl (flat [WX11 cy h0 a0 s0_30]) H := by rw [es]; exact hP
              have hD : va_D A (flat [WX11 cy h0 a0 s0_30]) := by rw [es]; exact hD
              clear es
              refine lv_aload_n hx hb dX11_ahead_170 rfl (lv_at hl 0 rfl) ?_
              refine lv_dup hx hb dX11_ahead_171 rfl ?_
              refine va_get (D := D) (ci := 11) (v := .int (gi s0_30 14)) (C := RX11) (T := TX11) (N := 38) hx hb hts hinX11 hown hK hP 0 rfl rfl 14 (by decide) (hts (.fieldLink RX11 108 "KneeBenchModel" "end" "I") (List.mem_of_getElem? (i := 1) rfl)) (fun _ h9 => h9) rfl dX11_ahead_172 ?_
              refine lv_iconst (v := 1) hx hb dX11_ahead_175 (by decide) ?_
              refine lv_iadd hx hb dX11_ahead_176 ?_
              obtain ⟨s0_31, es, h⟩ := lt_elim h
              refine va_put (D := D) (ci := 11) (v := .int ((gi s0_30 14) + (1 : Int32))) (ty := .int) (C := RX11) (T := TX11) (N := 38) hx hb hts hinX11 tyX11 tyX11_ok nmX11 hown hK hP hD hS 0 rfl rfl 14 (by decide) (hts (.fieldLink RX11 108 "KneeBenchModel" "end" "I") (List.mem_of_getElem? (i := 1) rfl)) (fun _ h9 => h9) rfl (by decide +kernel) rfl rfl (Nat.le_of_ble_eq_true rfl) dX11_ahead_177 (fun H locs hP hD hS => ?_)
              have hP : va_P D vwCl (flat [WX11 cy h0 a0 s0_31]) H := by rw [es]; exact hP
              have hD : va_D A (flat [WX11 cy h0 a0 s0_31]) := by rw [es]; exact hD
              clear es
              refine lv_goto (tgt := 128) hx hb dX11_ahead_180 (by decide) ?_
              exact ih _ o (hgo _ (Option.some.inj h).symm) H locs ls (lv_sub hl [0] rfl) hP hD hS kk183
        obtain ⟨o128, ho128, h⟩ := bd_elim h
        obtain ⟨n128, hn128⟩ := loopF_some ho128
        refine L128 n128 _ o128 hn128 H locs ls (lv_sub hl [1] rfl) hP hD hS (fun H locs ls hl hP hD hS => ?_)
        refine lv_aload_n hx hb dX11_ahead_183 rfl (lv_at hl 0 rfl) ?_
        refine lv_aload_n hx hb dX11_ahead_184 rfl (lv_at hl 0 rfl) ?_
        refine va_get (D := D) (ci := 11) (v := .int (gi o128 14)) (C := RX11) (T := TX11) (N := 38) hx hb hts hinX11 hown hK hP 0 rfl rfl 14 (by decide) (hts (.fieldLink RX11 108 "KneeBenchModel" "end" "I") (List.mem_of_getElem? (i := 1) rfl)) (fun _ h9 => h9) rfl dX11_ahead_185 ?_
        refine lv_aload_n hx hb dX11_ahead_188 rfl (lv_at hl 0 rfl) ?_
        refine va_get (D := D) (ci := 11) (v := .int (gi o128 13)) (C := RX11) (T := TX11) (N := 38) hx hb hts hinX11 hown hK hP 0 rfl rfl 13 (by decide) (hts (.fieldLink RX11 114 "KneeBenchModel" "from" "I") (List.mem_of_getElem? (i := 2) rfl)) (fun _ h9 => h9) rfl dX11_ahead_189 ?_
        refine lv_isub hx hb dX11_ahead_192 ?_
        refine lv_iconst (v := 4) hx hb dX11_ahead_193 (by decide) ?_
        refine lv_icmp_le (tgt := 201) hx hb dX11_ahead_194 (by decide) (fun c32 => ?_) (fun c32 => ?_)
        · replace h := (if_pos c32).symm.trans h
          refine lv_iconst (v := 3) hx hb dX11_ahead_201 (by decide) ?_
          obtain ⟨s0_33, es, h⟩ := lt_elim h
          refine va_put (D := D) (ci := 11) (v := .int (3 : Int32)) (ty := .int) (C := RX11) (T := TX11) (N := 38) hx hb hts hinX11 tyX11 tyX11_ok nmX11 hown hK hP hD hS 0 rfl rfl 12 (by decide) (hts (.fieldLink RX11 120 "KneeBenchModel" "token" "I") (List.mem_of_getElem? (i := 4) rfl)) (fun _ h9 => h9) rfl (by decide +kernel) rfl rfl (Nat.le_of_ble_eq_true rfl) dX11_ahead_202 (fun H locs hP hD hS => ?_)
          have hP : va_P D vwCl (flat [WX11 cy h0 a0 s0_33]) H := by rw [es]; exact hP
          have hD : va_D A (flat [WX11 cy h0 a0 s0_33]) := by rw [es]; exact hD
          clear es
          refine lv_goto (tgt := 251) hx hb dX11_ahead_205 (by decide) ?_
          exact hret 251 H locs ls s0_33 (Option.some.inj h) hP hD hS dX11_ahead_251
        · replace h := (if_neg c32).symm.trans h
          refine lv_iconst (v := 1) hx hb dX11_ahead_197 (by decide) ?_
          refine lv_goto (tgt := 202) hx hb dX11_ahead_198 (by decide) ?_
          obtain ⟨s0_34, es, h⟩ := lt_elim h
          refine va_put (D := D) (ci := 11) (v := .int (1 : Int32)) (ty := .int) (C := RX11) (T := TX11) (N := 38) hx hb hts hinX11 tyX11 tyX11_ok nmX11 hown hK hP hD hS 0 rfl rfl 12 (by decide) (hts (.fieldLink RX11 120 "KneeBenchModel" "token" "I") (List.mem_of_getElem? (i := 4) rfl)) (fun _ h9 => h9) rfl (by decide +kernel) rfl rfl (Nat.le_of_ble_eq_true rfl) dX11_ahead_202 (fun H locs hP hD hS => ?_)
          have hP : va_P D vwCl (flat [WX11 cy h0 a0 s0_34]) H := by rw [es]; exact hP
          have hD : va_D A (flat [WX11 cy h0 a0 s0_34]) := by rw [es]; exact hD
          clear es
          refine lv_goto (tgt := 251) hx hb dX11_ahead_205 (by decide) ?_
          exact hret 251 H locs ls s0_34 (Option.some.inj h) hP hD hS dX11_ahead_251
    · replace h := (if_neg c12).symm.trans h
      have L81 : ∀ (n : Nat) (q81 : Rc) (o : Rc), loopO (fX11_ahead_L81) n q81 = some o → ∀ (H : Heap) (locs : List Loc) (ls : Array Slot), lv_has ls 2 [(0, .ref h0)] → va_P D vwCl (flat [WX11 cy h0 a0 q81]) H → va_D A (flat [WX11 cy h0 a0 q81]) → va_S A s.heap H locs → ∀ (kk108 : ∀ (H : Heap) (locs : List Loc) (ls : Array Slot), lv_has ls 2 [(0, .ref h0)] → va_P D vwCl (flat [WX11 cy h0 a0 o]) H → va_D A (flat [WX11 cy h0 a0 o]) → va_S A s.heap H locs → W p l e rmX11_ahead s m args below meth c H locs 0 0 QQ (F0 m 108 ls [])), W p l e rmX11_ahead s m args below meth c H locs 0 0 QQ (F0 m 81 ls []) := by
        intro n
        induction n with
        | zero => intro q81 o h; exact absurd h (by rw [loopO_zero]; intro z; cases z)
        | succ n ih =>
          intro q81 o h H locs ls hl hP hD hS kk108
          obtain ⟨w, h, hgo, hst⟩ := loopO_elim h
          unfold fX11_ahead_L81 at h
          refine lv_aload_n hx hb dX11_ahead_81 rfl (lv_at hl 0 rfl) ?_
          refine lv_aload_n hx hb dX11_ahead_82 rfl (lv_at hl 0 rfl) ?_
          refine va_get (D := D) (ci := 11) (v := .int (gi q81 14)) (C := RX11) (T := TX11) (N := 38) hx hb hts hinX11 hown hK hP 0 rfl rfl 14 (by decide) (hts (.fieldLink RX11 108 "KneeBenchModel" "end" "I") (List.mem_of_getElem? (i := 1) rfl)) (fun _ h9 => h9) rfl dX11_ahead_83 ?_
          obtain ⟨r35, hr35, h⟩ := bd_elim h
          refine ca_i (w' := [WX11 cy h0 a0 q81]) (rn_V (As := [.int (gi q81 14)]) (rest := []) ⟨hx, hb, hml, hown, hts⟩ (kX11_byteAt l D cy h0 a0 q81 (gi q81 14) r35 hr35 H.size) (cwV 1 hts gX11_ahead_X11_byteAt rfl rfl rfl (by decide +kernel) ⟨Nat.le_of_ble_eq_true rfl, Nat.le_of_ble_eq_true rfl⟩) hK hN hP hD [0] rfl rfl (ci := 11) (q0 := 0) rfl rfl rfl rfl hl.1 rfl (Nat.le_of_ble_eq_true rfl) dX11_ahead_86 ⟨Nat.le_refl 0, Nat.le_refl 0⟩) hP hD hS hA [0] ⟨rfl, rfl, rfl, rfl⟩ (fun H locs hP hD hS => ?_)
          refine ca_z (w' := [WX11 cy h0 a0 q81]) (rn_S (As := [.int r35]) (rest := []) ⟨hx, hb, hml, hown, hts⟩ (kX11_isSmall l D cy r35 _ rfl H.size) (va_cwS 1 hts gX11_ahead_X11_isSmall rfl rfl rfl (by decide +kernel) ⟨Nat.le_of_ble_eq_true rfl, Nat.le_of_ble_eq_true rfl⟩) hK hN hP hD [] rfl rfl rfl hl.1 rfl (Nat.le_of_ble_eq_true rfl) dX11_ahead_89 ⟨Nat.le_refl 0, Nat.le_refl 0⟩) hP hD hS hA [] ⟨rfl, rfl, rfl, rfl⟩ (fun b36 H locs hP hD hS => ?_)
          refine lv_if_eq (tgt := 108) hx hb dX11_ahead_92 (by decide) (fun c37 => ?_) (fun c37 => ?_)
          · replace h := (if_pos c37).symm.trans h
            have eo := hst _ (Option.some.inj h).symm
            subst eo
            exact kk108 H locs ls (lv_sub hl [0] rfl) hP hD hS
          · replace h := (if_neg c37).symm.trans h
            refine lv_aload_n hx hb dX11_ahead_95 rfl (lv_at hl 0 rfl) ?_
            refine lv_dup hx hb dX11_ahead_96 rfl ?_
            refine va_get (D := D) (ci := 11) (v := .int (gi q81 14)) (C := RX11) (T := TX11) (N := 38) hx hb hts hinX11 hown hK hP 0 rfl rfl 14 (by decide) (hts (.fieldLink RX11 108 "KneeBenchModel" "end" "I") (List.mem_of_getElem? (i := 1) rfl)) (fun _ h9 => h9) rfl dX11_ahead_97 ?_
            refine lv_iconst (v := 1) hx hb dX11_ahead_100 (by decide) ?_
            refine lv_iadd hx hb dX11_ahead_101 ?_
            obtain ⟨s0_38, es, h⟩ := lt_elim h
            refine va_put (D := D) (ci := 11) (v := .int ((gi q81 14) + (1 : Int32))) (ty := .int) (C := RX11) (T := TX11) (N := 38) hx hb hts hinX11 tyX11 tyX11_ok nmX11 hown hK hP hD hS 0 rfl rfl 14 (by decide) (hts (.fieldLink RX11 108 "KneeBenchModel" "end" "I") (List.mem_of_getElem? (i := 1) rfl)) (fun _ h9 => h9) rfl (by decide +kernel) rfl rfl (Nat.le_of_ble_eq_true rfl) dX11_ahead_102 (fun H locs hP hD hS => ?_)
            have hP : va_P D vwCl (flat [WX11 cy h0 a0 s0_38]) H := by rw [es]; exact hP
            have hD : va_D A (flat [WX11 cy h0 a0 s0_38]) := by rw [es]; exact hD
            clear es
            refine lv_goto (tgt := 81) hx hb dX11_ahead_105 (by decide) ?_
            exact ih _ o (hgo _ (Option.some.inj h).symm) H locs ls (lv_sub hl [0] rfl) hP hD hS kk108
      obtain ⟨o81, ho81, h⟩ := bd_elim h
      obtain ⟨n81, hn81⟩ := loopF_some ho81
      refine L81 n81 _ o81 hn81 H locs ls (lv_sub hl [1] rfl) hP hD hS (fun H locs ls hl hP hD hS => ?_)
      refine lv_aload_n hx hb dX11_ahead_108 rfl (lv_at hl 0 rfl) ?_
      refine lv_iconst (v := 2) hx hb dX11_ahead_109 (by decide) ?_
      obtain ⟨s0_39, es, h⟩ := lt_elim h
      refine va_put (D := D) (ci := 11) (v := .int (2 : Int32)) (ty := .int) (C := RX11) (T := TX11) (N := 38) hx hb hts hinX11 tyX11 tyX11_ok nmX11 hown hK hP hD hS 0 rfl rfl 12 (by decide) (hts (.fieldLink RX11 120 "KneeBenchModel" "token" "I") (List.mem_of_getElem? (i := 4) rfl)) (fun _ h9 => h9) rfl (by decide +kernel) rfl rfl (Nat.le_of_ble_eq_true rfl) dX11_ahead_110 (fun H locs hP hD hS => ?_)
      have hP : va_P D vwCl (flat [WX11 cy h0 a0 s0_39]) H := by rw [es]; exact hP
      have hD : va_D A (flat [WX11 cy h0 a0 s0_39]) := by rw [es]; exact hD
      clear es
      refine lv_goto (tgt := 251) hx hb dX11_ahead_113 (by decide) ?_
      exact hret 251 H locs ls s0_39 (Option.some.inj h) hP hD hS dX11_ahead_251
  · replace h := (if_pos c10).symm.trans h
    refine lv_aload_n hx hb dX11_ahead_66 rfl (lv_at hl 1 rfl) ?_
    refine lv_iconst (v := 0) hx hb dX11_ahead_67 (by decide) ?_
    obtain ⟨s0_40, es, h⟩ := lt_elim h
    refine va_put (D := D) (ci := 11) (v := .int (0 : Int32)) (ty := .int) (C := RX11) (T := TX11) (N := 38) hx hb hts hinX11 tyX11 tyX11_ok nmX11 hown hK hP hD hS 0 rfl rfl 12 (by decide) (hts (.fieldLink RX11 120 "KneeBenchModel" "token" "I") (List.mem_of_getElem? (i := 4) rfl)) (fun _ h9 => h9) rfl (by decide +kernel) rfl rfl (Nat.le_of_ble_eq_true rfl) dX11_ahead_68 (fun H locs hP hD hS => ?_)
    have hP : va_P D vwCl (flat [WX11 cy h0 a0 s0_40]) H := by rw [es]; exact hP
    have hD : va_D A (flat [WX11 cy h0 a0 s0_40]) := by rw [es]; exact hD
    clear es
    refine lv_goto (tgt := 251) hx hb dX11_ahead_71 (by decide) ?_
    exact hret 251 H locs ls s0_40 (Option.some.inj h) hP hD hS dX11_ahead_251
theorem dX11_fails_0 : decode cX11_fails 0 = .ok (.aload_n 0, 1) := by decide +kernel
theorem dX11_fails_1 : decode cX11_fails 1 = .ok (.getfield 145, 3) := by decide +kernel
theorem dX11_fails_4 : decode cX11_fails 4 = .ok (.ifCond .ne 28, 3) := by decide +kernel
theorem dX11_fails_7 : decode cX11_fails 7 = .ok (.aload_n 0, 1) := by decide +kernel
theorem dX11_fails_8 : decode cX11_fails 8 = .ok (.aload_n 0, 1) := by decide +kernel
theorem dX11_fails_9 : decode cX11_fails 9 = .ok (.getfield 120, 3) := by decide +kernel
theorem dX11_fails_12 : decode cX11_fails 12 = .ok (.iconst 1, 1) := by decide +kernel
theorem dX11_fails_13 : decode cX11_fails 13 = .ok (.if_icmp .ne 7, 3) := by decide +kernel
theorem dX11_fails_16 : decode cX11_fails 16 = .ok (.iconst 1, 1) := by decide +kernel
theorem dX11_fails_17 : decode cX11_fails 17 = .ok (.goto 4, 3) := by decide +kernel
theorem dX11_fails_20 : decode cX11_fails 20 = .ok (.iload_n 1, 1) := by decide +kernel
theorem dX11_fails_21 : decode cX11_fails 21 = .ok (.putfield 145, 3) := by decide +kernel
theorem dX11_fails_24 : decode cX11_fails 24 = .ok (.aload_n 0, 1) := by decide +kernel
theorem dX11_fails_25 : decode cX11_fails 25 = .ok (.aload_n 0, 1) := by decide +kernel
theorem dX11_fails_26 : decode cX11_fails 26 = .ok (.getfield 114, 3) := by decide +kernel
theorem dX11_fails_29 : decode cX11_fails 29 = .ok (.putfield 41, 3) := by decide +kernel
theorem dX11_fails_32 : decode cX11_fails 32 = .ok (.iconst 0, 1) := by decide +kernel
theorem dX11_fails_33 : decode cX11_fails 33 = .ok (.ireturn, 1) := by decide +kernel
abbrev rmX11_fails : Room := { frames := 0, cells := 0, slots := 0, locals := 0 }
set_option maxHeartbeats 4000000 in
set_option maxRecDepth 100000 in
theorem kX11_fails (l : Launch) (D : va_G) (cy : Nat → ClassId) (h0 : Nat) (a0 : Nat → Nat) (s0 : Rc) (p1 : Int32) (res : Int32 × Rc) (h : fX11_fails p1 s0 = res) : CZ l D cy yX11_fails wsX11_fails rmX11_fails [.ref h0, .int p1] (flat [WX11 cy h0 a0 s0]) (flat [WX11 cy h0 a0 res.2]) res.1 := by
  refine CZ.of (cc := cX11_fails) (maxL := 2) (by decide) rfl (Nat.le_of_ble_eq_true rfl) ?_
  intro p e s m args below meth c A QQ ls E hr
  obtain ⟨hx, hb, hml, hown, hts, hK, hN, hP, hD, hA, hl⟩ := E
  have hret : ∀ (pc : Nat) (H : Heap) (locs : List Loc) (ls : Array Slot) (u : Int32 × Rc), u = res → va_P D vwCl (flat [WX11 cy h0 a0 u.2]) H → va_D A (flat [WX11 cy h0 a0 u.2]) → va_S A s.heap H locs → isb u.1 = true → decode cX11_fails pc = .ok (.ireturn, 1) → W p l e rmX11_fails s m args below meth c H locs 0 0 QQ (F0 m pc ls [.int u.1]) := by
    intro pc H locs ls u hu hP hD hS hz hd; subst hu; exact hr pc H locs ls _ rfl hP hD hS hz hd
  clear hr
  have hl : lv_has ls 2 [(0, .ref h0), (1, .int p1)] := hl
  have hinX11 : ∀ w ∈ wsX110, w ∈ wsX11_fails := fun _ h => List.mem_cons_of_mem _ (List.mem_append_right _ h)
  unfold fX11_fails at h
  suffices key : ∀ (H : Heap) (locs : List Loc), va_P D vwCl (flat [WX11 cy h0 a0 s0]) H → va_S A s.heap H locs → W p l e rmX11_fails s m args below meth c H locs 0 0 QQ (F0 m 0 ls []) from key _ _ hP va_S.rf
  clear hP
  intro H locs hP hS
  refine lv_aload_n hx hb dX11_fails_0 rfl (lv_at hl 0 rfl) ?_
  refine va_get (D := D) (ci := 11) (v := .int (gi s0 18)) (C := RX11) (T := TX11) (N := 38) hx hb hts hinX11 hown hK hP 0 rfl rfl 18 (by decide) (hts (.fieldLink RX11 145 "KneeBenchModel" "faults" "I") (List.mem_of_getElem? (i := 1) rfl)) (fun _ h9 => h9) rfl dX11_fails_1 ?_
  refine lv_if_ne (tgt := 32) hx hb dX11_fails_4 (by decide) (fun c1 => ?_) (fun c1 => ?_)
  · replace h := (if_neg c1).symm.trans h
    refine lv_iconst (v := 0) hx hb dX11_fails_32 (by decide) ?_
    exact hret 33 H locs ls ((0 : Int32), s0) h hP hD hS (show isb (0 : Int32) = true by decide) dX11_fails_33
  · replace h := (if_pos c1).symm.trans h
    refine lv_aload_n hx hb dX11_fails_7 rfl (lv_at hl 0 rfl) ?_
    refine lv_aload_n hx hb dX11_fails_8 rfl (lv_at hl 0 rfl) ?_
    refine va_get (D := D) (ci := 11) (v := .int (gi s0 12)) (C := RX11) (T := TX11) (N := 38) hx hb hts hinX11 hown hK hP 0 rfl rfl 12 (by decide) (hts (.fieldLink RX11 120 "KneeBenchModel" "token" "I") (List.mem_of_getElem? (i := 2) rfl)) (fun _ h9 => h9) rfl dX11_fails_9 ?_
    refine lv_iconst (v := 1) hx hb dX11_fails_12 (by decide) ?_
    refine lv_icmp_ne (tgt := 20) hx hb dX11_fails_13 (by decide) (fun c2 => ?_) (fun c2 => ?_)
    · replace h := (if_neg c2).symm.trans h
      refine lv_iload_n hx hb dX11_fails_20 rfl (lv_at hl 1 rfl) ?_
      obtain ⟨s0_3, es, h⟩ := lt_elim h
      refine va_put (D := D) (ci := 11) (v := .int p1) (ty := .int) (C := RX11) (T := TX11) (N := 38) hx hb hts hinX11 tyX11 tyX11_ok nmX11 hown hK hP hD hS 0 rfl rfl 18 (by decide) (hts (.fieldLink RX11 145 "KneeBenchModel" "faults" "I") (List.mem_of_getElem? (i := 1) rfl)) (fun _ h9 => h9) rfl (by decide +kernel) rfl rfl (Nat.le_of_ble_eq_true rfl) dX11_fails_21 (fun H locs hP hD hS => ?_)
      have hP : va_P D vwCl (flat [WX11 cy h0 a0 s0_3]) H := by rw [es]; exact hP
      have hD : va_D A (flat [WX11 cy h0 a0 s0_3]) := by rw [es]; exact hD
      clear es
      refine lv_aload_n hx hb dX11_fails_24 rfl (lv_at hl 0 rfl) ?_
      refine lv_aload_n hx hb dX11_fails_25 rfl (lv_at hl 0 rfl) ?_
      refine va_get (D := D) (ci := 11) (v := .int (gi s0_3 13)) (C := RX11) (T := TX11) (N := 38) hx hb hts hinX11 hown hK hP 0 rfl rfl 13 (by decide) (hts (.fieldLink RX11 114 "KneeBenchModel" "from" "I") (List.mem_of_getElem? (i := 3) rfl)) (fun _ h9 => h9) rfl dX11_fails_26 ?_
      obtain ⟨s0_4, es, h⟩ := lt_elim h
      refine va_put (D := D) (ci := 11) (v := .int (gi s0_3 13)) (ty := .int) (C := RX11) (T := TX11) (N := 38) hx hb hts hinX11 tyX11 tyX11_ok nmX11 hown hK hP hD hS 0 rfl rfl 17 (by decide) (hts (.fieldLink RX11 41 "KneeBenchModel" "faultPlace" "I") (List.mem_of_getElem? (i := 4) rfl)) (fun _ h9 => h9) rfl (by decide +kernel) rfl rfl (Nat.le_of_ble_eq_true rfl) dX11_fails_29 (fun H locs hP hD hS => ?_)
      have hP : va_P D vwCl (flat [WX11 cy h0 a0 s0_4]) H := by rw [es]; exact hP
      have hD : va_D A (flat [WX11 cy h0 a0 s0_4]) := by rw [es]; exact hD
      clear es
      refine lv_iconst (v := 0) hx hb dX11_fails_32 (by decide) ?_
      exact hret 33 H locs ls ((0 : Int32), s0_4) h hP hD hS (show isb (0 : Int32) = true by decide) dX11_fails_33
    · replace h := (if_pos c2).symm.trans h
      refine lv_iconst (v := 1) hx hb dX11_fails_16 (by decide) ?_
      refine lv_goto (tgt := 21) hx hb dX11_fails_17 (by decide) ?_
      obtain ⟨s0_5, es, h⟩ := lt_elim h
      refine va_put (D := D) (ci := 11) (v := .int (1 : Int32)) (ty := .int) (C := RX11) (T := TX11) (N := 38) hx hb hts hinX11 tyX11 tyX11_ok nmX11 hown hK hP hD hS 0 rfl rfl 18 (by decide) (hts (.fieldLink RX11 145 "KneeBenchModel" "faults" "I") (List.mem_of_getElem? (i := 1) rfl)) (fun _ h9 => h9) rfl (by decide +kernel) rfl rfl (Nat.le_of_ble_eq_true rfl) dX11_fails_21 (fun H locs hP hD hS => ?_)
      have hP : va_P D vwCl (flat [WX11 cy h0 a0 s0_5]) H := by rw [es]; exact hP
      have hD : va_D A (flat [WX11 cy h0 a0 s0_5]) := by rw [es]; exact hD
      clear es
      refine lv_aload_n hx hb dX11_fails_24 rfl (lv_at hl 0 rfl) ?_
      refine lv_aload_n hx hb dX11_fails_25 rfl (lv_at hl 0 rfl) ?_
      refine va_get (D := D) (ci := 11) (v := .int (gi s0_5 13)) (C := RX11) (T := TX11) (N := 38) hx hb hts hinX11 hown hK hP 0 rfl rfl 13 (by decide) (hts (.fieldLink RX11 114 "KneeBenchModel" "from" "I") (List.mem_of_getElem? (i := 3) rfl)) (fun _ h9 => h9) rfl dX11_fails_26 ?_
      obtain ⟨s0_6, es, h⟩ := lt_elim h
      refine va_put (D := D) (ci := 11) (v := .int (gi s0_5 13)) (ty := .int) (C := RX11) (T := TX11) (N := 38) hx hb hts hinX11 tyX11 tyX11_ok nmX11 hown hK hP hD hS 0 rfl rfl 17 (by decide) (hts (.fieldLink RX11 41 "KneeBenchModel" "faultPlace" "I") (List.mem_of_getElem? (i := 4) rfl)) (fun _ h9 => h9) rfl (by decide +kernel) rfl rfl (Nat.le_of_ble_eq_true rfl) dX11_fails_29 (fun H locs hP hD hS => ?_)
      have hP : va_P D vwCl (flat [WX11 cy h0 a0 s0_6]) H := by rw [es]; exact hP
      have hD : va_D A (flat [WX11 cy h0 a0 s0_6]) := by rw [es]; exact hD
      clear es
      refine lv_iconst (v := 0) hx hb dX11_fails_32 (by decide) ?_
      exact hret 33 H locs ls ((0 : Int32), s0_6) h hP hD hS (show isb (0 : Int32) = true by decide) dX11_fails_33
theorem gd_X11_nameHere : wsX11_nameHere.all goodWord = true := by decide +kernel
set_option maxRecDepth 20000 in
theorem ggX11_nameHere_X11_byteAt : GoodIn wsX11_nameHere wsX11_byteAt := goodIn_by gd_X11_nameHere (List.forall_mem_cons.mpr ⟨List.mem_cons_of_mem _ (List.mem_append_left _ (List.mem_of_getElem? (i := 6) rfl)), List.forall_mem_append.mpr ⟨List.forall_mem_cons.mpr ⟨List.mem_cons_of_mem _ (List.mem_append_left _ (List.mem_of_getElem? (i := 7) rfl)), List.forall_mem_cons.mpr ⟨List.mem_cons_of_mem _ (List.mem_append_left _ (List.mem_of_getElem? (i := 8) rfl)), nowords_in⟩⟩, (fun _ h => List.mem_cons_of_mem _ (List.mem_append_right _ (h)))⟩⟩)
set_option maxRecDepth 20000 in
theorem gX11_nameHere_X11_byteAt : GoodIn wsX11_nameHere (wsV RX11 111 RX11 yX11_byteAt wsX11_byteAt) := goodIn_app (goodIn_by gd_X11_nameHere (List.forall_mem_cons.mpr ⟨List.mem_cons_of_mem _ (List.mem_append_left _ (List.mem_of_getElem? (i := 2) rfl)), List.forall_mem_cons.mpr ⟨List.mem_cons_of_mem _ (List.mem_append_left _ (List.mem_of_getElem? (i := 3) rfl)), List.forall_mem_cons.mpr ⟨List.mem_cons_of_mem _ (List.mem_append_left _ (List.mem_of_getElem? (i := 4) rfl)), List.forall_mem_cons.mpr ⟨List.mem_cons_of_mem _ (List.mem_append_left _ (List.mem_of_getElem? (i := 5) rfl)), nowords_in⟩⟩⟩⟩)) ggX11_nameHere_X11_byteAt
theorem dX11_nameHere_0 : decode cX11_nameHere 0 = .ok (.lconst 0, 1) := by decide +kernel
theorem dX11_nameHere_1 : decode cX11_nameHere 1 = .ok (.lstore_n 1, 1) := by decide +kernel
theorem dX11_nameHere_2 : decode cX11_nameHere 2 = .ok (.aload_n 0, 1) := by decide +kernel
theorem dX11_nameHere_3 : decode cX11_nameHere 3 = .ok (.getfield 114, 3) := by decide +kernel
theorem dX11_nameHere_6 : decode cX11_nameHere 6 = .ok (.istore_n 3, 1) := by decide +kernel
theorem dX11_nameHere_7 : decode cX11_nameHere 7 = .ok (.iload_n 3, 1) := by decide +kernel
theorem dX11_nameHere_8 : decode cX11_nameHere 8 = .ok (.aload_n 0, 1) := by decide +kernel
theorem dX11_nameHere_9 : decode cX11_nameHere 9 = .ok (.getfield 108, 3) := by decide +kernel
theorem dX11_nameHere_12 : decode cX11_nameHere 12 = .ok (.if_icmp .ge 21, 3) := by decide +kernel
theorem dX11_nameHere_15 : decode cX11_nameHere 15 = .ok (.lload_n 1, 1) := by decide +kernel
theorem dX11_nameHere_16 : decode cX11_nameHere 16 = .ok (.bipush 8, 2) := by decide +kernel
theorem dX11_nameHere_18 : decode cX11_nameHere 18 = .ok (.lshl, 1) := by decide +kernel
theorem dX11_nameHere_19 : decode cX11_nameHere 19 = .ok (.aload_n 0, 1) := by decide +kernel
theorem dX11_nameHere_20 : decode cX11_nameHere 20 = .ok (.iload_n 3, 1) := by decide +kernel
theorem dX11_nameHere_21 : decode cX11_nameHere 21 = .ok (.invokevirtual 111, 3) := by decide +kernel
theorem dX11_nameHere_24 : decode cX11_nameHere 24 = .ok (.i2l, 1) := by decide +kernel
theorem dX11_nameHere_25 : decode cX11_nameHere 25 = .ok (.lor, 1) := by decide +kernel
theorem dX11_nameHere_26 : decode cX11_nameHere 26 = .ok (.lstore_n 1, 1) := by decide +kernel
theorem dX11_nameHere_27 : decode cX11_nameHere 27 = .ok (.iinc 3 1, 3) := by decide +kernel
theorem dX11_nameHere_30 : decode cX11_nameHere 30 = .ok (.goto (-23), 3) := by decide +kernel
theorem dX11_nameHere_33 : decode cX11_nameHere 33 = .ok (.lload_n 1, 1) := by decide +kernel
theorem dX11_nameHere_34 : decode cX11_nameHere 34 = .ok (.lreturn, 1) := by decide +kernel
abbrev rmX11_nameHere : Room := { frames := 1, cells := 0, slots := 0, locals := 21 }
set_option maxHeartbeats 4000000 in
set_option maxRecDepth 100000 in
theorem kX11_nameHere (l : Launch) (D : va_G) (cy : Nat → ClassId) (h0 : Nat) (a0 : Nat → Nat) (s0 : Rc) (res : Int64) (h : fX11_nameHere s0 = some res) : CL l D cy yX11_nameHere wsX11_nameHere rmX11_nameHere [.ref h0] (flat [WX11 cy h0 a0 s0]) (flat [WX11 cy h0 a0 s0]) res := by
  refine CL.of (cc := cX11_nameHere) (maxL := 4) (by decide) rfl (Nat.le_of_ble_eq_true rfl) ?_
  intro p e s m args below meth c A QQ ls E hr
  obtain ⟨hx, hb, hml, hown, hts, hK, hN, hP, hD, hA, hl⟩ := E
  have hret : ∀ (pc : Nat) (H : Heap) (locs : List Loc) (ls : Array Slot) (u : Int64), u = res → va_P D vwCl (flat [WX11 cy h0 a0 s0]) H → va_D A (flat [WX11 cy h0 a0 s0]) → va_S A s.heap H locs → decode cX11_nameHere pc = .ok (.lreturn, 1) → W p l e rmX11_nameHere s m args below meth c H locs 0 0 QQ (F0 m pc ls [.long u]) := by
    intro pc H locs ls u hu hP hD hS hd; subst hu; exact hr pc H locs ls _ rfl hP hD hS hd
  clear hr
  have hl : lv_has ls 4 [(0, .ref h0)] := hl
  have hinX11 : ∀ w ∈ wsX110, w ∈ wsX11_nameHere := fun _ h => List.mem_cons_of_mem _ (List.mem_append_right _ h)
  unfold fX11_nameHere at h
  suffices key : ∀ (H : Heap) (locs : List Loc), va_P D vwCl (flat [WX11 cy h0 a0 s0]) H → va_S A s.heap H locs → W p l e rmX11_nameHere s m args below meth c H locs 0 0 QQ (F0 m 0 ls []) from key _ _ hP va_S.rf
  clear hP
  intro H locs hP hS
  refine lv_lconst (v := 0) hx hb dX11_nameHere_0 (by decide) ?_
  refine lv_lstore_n (lv' := [(1, .long (0 : Int64)), (0, .ref h0)]) hx hb dX11_nameHere_1 rfl hl (by decide) rfl (fun ls hl => ?_)
  refine lv_aload_n hx hb dX11_nameHere_2 rfl (lv_at hl 1 rfl) ?_
  refine va_get (D := D) (ci := 11) (v := .int (gi s0 13)) (C := RX11) (T := TX11) (N := 38) hx hb hts hinX11 hown hK hP 0 rfl rfl 13 (by decide) (hts (.fieldLink RX11 114 "KneeBenchModel" "from" "I") (List.mem_of_getElem? (i := 1) rfl)) (fun _ h9 => h9) rfl dX11_nameHere_3 ?_
  refine lv_topi (fun x1 ex1 => ?_)
  replace h := lt_use h x1 ex1
  refine lv_istore_n (lv' := [(3, .int x1), (1, .long (0 : Int64)), (0, .ref h0)]) hx hb dX11_nameHere_6 rfl hl (by decide) rfl (fun ls hl => ?_)
  have L7 : ∀ (n : Nat) (q7 : Int64 × Int32) (o : Int64), loopO (fX11_nameHere_L7 s0) n q7 = some o → ∀ (H : Heap) (locs : List Loc) (ls : Array Slot), lv_has ls 4 [(0, .ref h0), (1, .long q7.1), (3, .int q7.2)] → va_P D vwCl (flat [WX11 cy h0 a0 s0]) H → va_D A (flat [WX11 cy h0 a0 s0]) → va_S A s.heap H locs → ∀ (kk33 : ∀ (H : Heap) (locs : List Loc) (ls : Array Slot), lv_has ls 4 [(1, .long o)] → va_P D vwCl (flat [WX11 cy h0 a0 s0]) H → va_D A (flat [WX11 cy h0 a0 s0]) → va_S A s.heap H locs → W p l e rmX11_nameHere s m args below meth c H locs 0 0 QQ (F0 m 33 ls [])), W p l e rmX11_nameHere s m args below meth c H locs 0 0 QQ (F0 m 7 ls []) := by
    intro n
    induction n with
    | zero => intro q7 o h; exact absurd h (by rw [loopO_zero]; intro z; cases z)
    | succ n ih =>
      intro q7 o h H locs ls hl hP hD hS kk33
      obtain ⟨w, h, hgo, hst⟩ := loopO_elim h
      unfold fX11_nameHere_L7 at h
      refine lv_iload_n hx hb dX11_nameHere_7 rfl (lv_at hl 2 rfl) ?_
      refine lv_aload_n hx hb dX11_nameHere_8 rfl (lv_at hl 0 rfl) ?_
      refine va_get (D := D) (ci := 11) (v := .int (gi s0 14)) (C := RX11) (T := TX11) (N := 38) hx hb hts hinX11 hown hK hP 0 rfl rfl 14 (by decide) (hts (.fieldLink RX11 108 "KneeBenchModel" "end" "I") (List.mem_of_getElem? (i := 2) rfl)) (fun _ h9 => h9) rfl dX11_nameHere_9 ?_
      refine lv_icmp_ge (tgt := 33) hx hb dX11_nameHere_12 (by decide) (fun c2 => ?_) (fun c2 => ?_)
      · replace h := (if_pos c2).symm.trans h
        have eo := hst _ (Option.some.inj h).symm
        subst eo
        exact kk33 H locs ls (lv_sub hl [1] rfl) hP hD hS
      · replace h := (if_neg c2).symm.trans h
        refine lv_lload_n hx hb dX11_nameHere_15 rfl (lv_at hl 1 rfl) ?_
        refine lv_bipush (v := 8) hx hb dX11_nameHere_16 (by decide) ?_
        refine lv_lshl hx hb dX11_nameHere_18 rfl ?_
        refine lv_aload_n hx hb dX11_nameHere_19 rfl (lv_at hl 0 rfl) ?_
        refine lv_iload_n hx hb dX11_nameHere_20 rfl (lv_at hl 2 rfl) ?_
        obtain ⟨r3, hr3, h⟩ := bd_elim h
        refine ca_i (w' := [WX11 cy h0 a0 s0]) (rn_V (As := [.int q7.2]) (rest := [.long (q7.1 <<< ((8 : Int32).toInt64 &&& 63))]) ⟨hx, hb, hml, hown, hts⟩ (kX11_byteAt l D cy h0 a0 s0 q7.2 r3 hr3 H.size) (cwV 1 hts gX11_nameHere_X11_byteAt rfl rfl rfl (by decide +kernel) ⟨Nat.le_of_ble_eq_true rfl, Nat.le_of_ble_eq_true rfl⟩) hK hN hP hD [0] rfl rfl (ci := 11) (q0 := 0) rfl rfl rfl rfl hl.1 rfl (Nat.le_of_ble_eq_true rfl) dX11_nameHere_21 ⟨Nat.le_refl 0, Nat.le_refl 0⟩) hP hD hS hA [0] ⟨rfl, rfl, rfl, rfl⟩ (fun H locs hP hD hS => ?_)
        refine lv_i2l hx hb dX11_nameHere_24 rfl ?_
        refine lv_lor hx hb dX11_nameHere_25 ?_
        refine lv_topl (fun x4 ex4 => ?_)
        replace h := lt_use h x4 ex4
        refine lv_lstore_n (lv' := [(1, .long x4), (0, .ref h0), (3, .int q7.2)]) hx hb dX11_nameHere_26 rfl hl (by decide) rfl (fun ls hl => ?_)
        refine lv_iinc (v := (q7.2 + (1 : Int32))) (lv' := [(3, .int (q7.2 + (1 : Int32))), (1, .long x4), (0, .ref h0)]) hx hb dX11_nameHere_27 hl (k := 2) rfl rfl (by decide) rfl (fun ls hl => ?_)
        refine lv_goto (tgt := 7) hx hb dX11_nameHere_30 (by decide) ?_
        exact ih _ o (hgo _ (Option.some.inj h).symm) H locs ls (lv_sub hl [2, 1, 0] rfl) hP hD hS kk33
  obtain ⟨o7, ho7, h⟩ := bd_elim h
  obtain ⟨n7, hn7⟩ := loopF_some ho7
  refine L7 n7 _ o7 hn7 H locs ls (lv_sub hl [2, 1, 0] rfl) hP hD hS (fun H locs ls hl hP hD hS => ?_)
  refine lv_lload_n hx hb dX11_nameHere_33 rfl (lv_at hl 0 rfl) ?_
  exact hret 34 H locs ls o7 (Option.some.inj h) hP hD hS dX11_nameHere_34
theorem gd_X11_findHere : wsX11_findHere.all goodWord = true := by decide +kernel
set_option maxRecDepth 20000 in
theorem ggX11_findHere_X11_nameHere : GoodIn wsX11_findHere wsX11_nameHere := goodIn_by gd_X11_findHere (List.forall_mem_cons.mpr ⟨List.mem_cons_of_mem _ (List.mem_append_left _ (List.mem_of_getElem? (i := 5) rfl)), List.forall_mem_append.mpr ⟨List.forall_mem_cons.mpr ⟨List.mem_cons_of_mem _ (List.mem_append_left _ (List.mem_of_getElem? (i := 6) rfl)), List.forall_mem_cons.mpr ⟨List.mem_cons_of_mem _ (List.mem_append_left _ (List.mem_of_getElem? (i := 7) rfl)), List.forall_mem_cons.mpr ⟨List.mem_cons_of_mem _ (List.mem_append_left _ (List.mem_of_getElem? (i := 8) rfl)), List.forall_mem_cons.mpr ⟨List.mem_cons_of_mem _ (List.mem_append_left _ (List.mem_of_getElem? (i := 9) rfl)), List.forall_mem_cons.mpr ⟨List.mem_cons_of_mem _ (List.mem_append_left _ (List.mem_of_getElem? (i := 10) rfl)), List.forall_mem_cons.mpr ⟨List.mem_cons_of_mem _ (List.mem_append_left _ (List.mem_of_getElem? (i := 4) rfl)), List.forall_mem_cons.mpr ⟨List.mem_cons_of_mem _ (List.mem_append_left _ (List.mem_of_getElem? (i := 11) rfl)), List.forall_mem_cons.mpr ⟨List.mem_cons_of_mem _ (List.mem_append_left _ (List.mem_of_getElem? (i := 12) rfl)), List.forall_mem_cons.mpr ⟨List.mem_cons_of_mem _ (List.mem_append_left _ (List.mem_of_getElem? (i := 13) rfl)), nowords_in⟩⟩⟩⟩⟩⟩⟩⟩⟩, (fun _ h => List.mem_cons_of_mem _ (List.mem_append_right _ (h)))⟩⟩)
set_option maxRecDepth 20000 in
theorem gX11_findHere_X11_nameHere : GoodIn wsX11_findHere (wsV RX11 164 RX11 yX11_nameHere wsX11_nameHere) := goodIn_app (goodIn_by gd_X11_findHere (List.forall_mem_cons.mpr ⟨List.mem_cons_of_mem _ (List.mem_append_left _ (List.mem_of_getElem? (i := 1) rfl)), List.forall_mem_cons.mpr ⟨List.mem_cons_of_mem _ (List.mem_append_left _ (List.mem_of_getElem? (i := 2) rfl)), List.forall_mem_cons.mpr ⟨List.mem_cons_of_mem _ (List.mem_append_left _ (List.mem_of_getElem? (i := 3) rfl)), List.forall_mem_cons.mpr ⟨List.mem_cons_of_mem _ (List.mem_append_left _ (List.mem_of_getElem? (i := 4) rfl)), nowords_in⟩⟩⟩⟩)) ggX11_findHere_X11_nameHere
theorem dX11_findHere_0 : decode cX11_findHere 0 = .ok (.iconst 0, 1) := by decide +kernel
theorem dX11_findHere_1 : decode cX11_findHere 1 = .ok (.istore_n 3, 1) := by decide +kernel
theorem dX11_findHere_2 : decode cX11_findHere 2 = .ok (.iload_n 3, 1) := by decide +kernel
theorem dX11_findHere_3 : decode cX11_findHere 3 = .ok (.iload_n 2, 1) := by decide +kernel
theorem dX11_findHere_4 : decode cX11_findHere 4 = .ok (.if_icmp .ge 27, 3) := by decide +kernel
theorem dX11_findHere_7 : decode cX11_findHere 7 = .ok (.aload_n 0, 1) := by decide +kernel
theorem dX11_findHere_8 : decode cX11_findHere 8 = .ok (.getfield 13, 3) := by decide +kernel
theorem dX11_findHere_11 : decode cX11_findHere 11 = .ok (.iload_n 1, 1) := by decide +kernel
theorem dX11_findHere_12 : decode cX11_findHere 12 = .ok (.iload_n 3, 1) := by decide +kernel
theorem dX11_findHere_13 : decode cX11_findHere 13 = .ok (.iadd, 1) := by decide +kernel
theorem dX11_findHere_14 : decode cX11_findHere 14 = .ok (.laload, 1) := by decide +kernel
theorem dX11_findHere_15 : decode cX11_findHere 15 = .ok (.aload_n 0, 1) := by decide +kernel
theorem dX11_findHere_16 : decode cX11_findHere 16 = .ok (.invokevirtual 164, 3) := by decide +kernel
theorem dX11_findHere_19 : decode cX11_findHere 19 = .ok (.lcmp, 1) := by decide +kernel
theorem dX11_findHere_20 : decode cX11_findHere 20 = .ok (.ifCond .ne 5, 3) := by decide +kernel
theorem dX11_findHere_23 : decode cX11_findHere 23 = .ok (.iload_n 3, 1) := by decide +kernel
theorem dX11_findHere_24 : decode cX11_findHere 24 = .ok (.ireturn, 1) := by decide +kernel
theorem dX11_findHere_25 : decode cX11_findHere 25 = .ok (.iinc 3 1, 3) := by decide +kernel
theorem dX11_findHere_28 : decode cX11_findHere 28 = .ok (.goto (-26), 3) := by decide +kernel
theorem dX11_findHere_31 : decode cX11_findHere 31 = .ok (.iconst (-1), 1) := by decide +kernel
theorem dX11_findHere_32 : decode cX11_findHere 32 = .ok (.ireturn, 1) := by decide +kernel
abbrev rmX11_findHere : Room := { frames := 2, cells := 0, slots := 0, locals := 44 }
set_option maxHeartbeats 4000000 in
set_option maxRecDepth 100000 in
theorem kX11_findHere (l : Launch) (D : va_G) (cy : Nat → ClassId) (h0 : Nat) (a0 : Nat → Nat) (s0 : Rc) (p1 : Int32) (p2 : Int32) (res : Int32) (h : fX11_findHere p1 p2 s0 = some res) : CI l D cy yX11_findHere wsX11_findHere rmX11_findHere [.ref h0, .int p1, .int p2] (flat [WX11 cy h0 a0 s0]) (flat [WX11 cy h0 a0 s0]) res := by
  refine CI.of (cc := cX11_findHere) (maxL := 4) (by decide) rfl (Nat.le_of_ble_eq_true rfl) ?_
  intro p e s m args below meth c A QQ ls E hr
  obtain ⟨hx, hb, hml, hown, hts, hK, hN, hP, hD, hA, hl⟩ := E
  have hret : ∀ (pc : Nat) (H : Heap) (locs : List Loc) (ls : Array Slot) (u : Int32), u = res → va_P D vwCl (flat [WX11 cy h0 a0 s0]) H → va_D A (flat [WX11 cy h0 a0 s0]) → va_S A s.heap H locs → decode cX11_findHere pc = .ok (.ireturn, 1) → W p l e rmX11_findHere s m args below meth c H locs 0 0 QQ (F0 m pc ls [.int u]) := by
    intro pc H locs ls u hu hP hD hS hd; subst hu; exact hr pc H locs ls _ rfl hP hD hS hd
  clear hr
  have hl : lv_has ls 4 [(0, .ref h0), (1, .int p1), (2, .int p2)] := hl
  have hinX11 : ∀ w ∈ wsX110, w ∈ wsX11_findHere := fun _ h => List.mem_cons_of_mem _ (List.mem_append_right _ h)
  unfold fX11_findHere at h
  suffices key : ∀ (H : Heap) (locs : List Loc), va_P D vwCl (flat [WX11 cy h0 a0 s0]) H → va_S A s.heap H locs → W p l e rmX11_findHere s m args below meth c H locs 0 0 QQ (F0 m 0 ls []) from key _ _ hP va_S.rf
  clear hP
  intro H locs hP hS
  refine lv_iconst (v := 0) hx hb dX11_findHere_0 (by decide) ?_
  refine lv_istore_n (lv' := [(3, .int (0 : Int32)), (0, .ref h0), (1, .int p1), (2, .int p2)]) hx hb dX11_findHere_1 rfl hl (by decide) rfl (fun ls hl => ?_)
  have L2 : ∀ (n : Nat) (q2 : Int32) (o : (Int32) ⊕ (Unit)), loopO (fX11_findHere_L2 p1 p2 s0) n q2 = some o → ∀ (H : Heap) (locs : List Loc) (ls : Array Slot), lv_has ls 4 [(0, .ref h0), (1, .int p1), (2, .int p2), (3, .int q2)] → va_P D vwCl (flat [WX11 cy h0 a0 s0]) H → va_D A (flat [WX11 cy h0 a0 s0]) → va_S A s.heap H locs → ∀ (kk23 : ∀ v : Int32, o = (.inl v) → ∀ (H : Heap) (locs : List Loc) (ls : Array Slot), lv_has ls 4 [(3, .int v)] → va_P D vwCl (flat [WX11 cy h0 a0 s0]) H → va_D A (flat [WX11 cy h0 a0 s0]) → va_S A s.heap H locs → W p l e rmX11_findHere s m args below meth c H locs 0 0 QQ (F0 m 23 ls [])) (kk31 : ∀ v : Unit, o = (.inr v) → ∀ (H : Heap) (locs : List Loc) (ls : Array Slot), lv_has ls 4 [] → va_P D vwCl (flat [WX11 cy h0 a0 s0]) H → va_D A (flat [WX11 cy h0 a0 s0]) → va_S A s.heap H locs → W p l e rmX11_findHere s m args below meth c H locs 0 0 QQ (F0 m 31 ls [])), W p l e rmX11_findHere s m args below meth c H locs 0 0 QQ (F0 m 2 ls []) := by
    intro n
    induction n with
    | zero => intro q2 o h; exact absurd h (by rw [loopO_zero]; intro z; cases z)
    | succ n ih =>
      intro q2 o h H locs ls hl hP hD hS kk23 kk31
      obtain ⟨w, h, hgo, hst⟩ := loopO_elim h
      unfold fX11_findHere_L2 at h
      refine lv_iload_n hx hb dX11_findHere_2 rfl (lv_at hl 3 rfl) ?_
      refine lv_iload_n hx hb dX11_findHere_3 rfl (lv_at hl 2 rfl) ?_
      refine lv_icmp_ge (tgt := 31) hx hb dX11_findHere_4 (by decide) (fun c1 => ?_) (fun c1 => ?_)
      · replace h := (if_pos c1).symm.trans h
        have eo := hst _ (Option.some.inj h).symm
        exact kk31 _ eo.symm H locs ls (lv_sub hl [] rfl) hP hD hS
      · replace h := (if_neg c1).symm.trans h
        refine lv_aload_n hx hb dX11_findHere_7 rfl (lv_at hl 0 rfl) ?_
        refine va_get (D := D) (ci := 11) (v := .ref (a0 1)) (C := RX11) (T := TX11) (N := 38) hx hb hts hinX11 hown hK hP 0 rfl rfl 1 (by decide) (hts (.fieldLink RX11 13 "KneeBenchModel" "names" "[J") (List.mem_of_getElem? (i := 1) rfl)) (fun _ h9 => h9) rfl dX11_findHere_8 ?_
        refine lv_iload_n hx hb dX11_findHere_11 rfl (lv_at hl 1 rfl) ?_
        refine lv_iload_n hx hb dX11_findHere_12 rfl (lv_at hl 3 rfl) ?_
        refine lv_iadd hx hb dX11_findHere_13 ?_
        obtain ⟨g2, h⟩ := gd_elim h
        refine va_lald hx hb hK hP 2 2 rfl rfl (inb_in g2) dX11_findHere_14 ?_
        refine lv_aload_n hx hb dX11_findHere_15 rfl (lv_at hl 0 rfl) ?_
        obtain ⟨r3, hr3, h⟩ := bd_elim h
        refine ca_l (w' := [WX11 cy h0 a0 s0]) (rn_V (As := []) (rest := [.long (gb s0 1 (p1 + q2).toNatClampNeg)]) ⟨hx, hb, hml, hown, hts⟩ (kX11_nameHere l D cy h0 a0 s0 r3 hr3 H.size) (cwV 0 hts gX11_findHere_X11_nameHere rfl rfl rfl (by decide +kernel) ⟨Nat.le_of_ble_eq_true rfl, Nat.le_of_ble_eq_true rfl⟩) hK hN hP hD [0] rfl rfl (ci := 11) (q0 := 0) rfl rfl rfl rfl hl.1 rfl (Nat.le_of_ble_eq_true rfl) dX11_findHere_16 ⟨Nat.le_refl 0, Nat.le_refl 0⟩) hP hD hS hA [0] ⟨rfl, rfl, rfl, rfl⟩ (fun H locs hP hD hS => ?_)
        refine W.lcmp hx hb dX11_findHere_19 ?_
        refine lv_if_ne (tgt := 25) hx hb dX11_findHere_20 (by decide) (fun c4 => ?_) (fun c4 => ?_)
        · replace h := (if_neg (fun z => c4 (lg_ceq.mpr z))).symm.trans h
          refine lv_iinc (v := (q2 + (1 : Int32))) (lv' := [(3, .int (q2 + (1 : Int32))), (0, .ref h0), (1, .int p1), (2, .int p2)]) hx hb dX11_findHere_25 hl (k := 3) rfl rfl (by decide) rfl (fun ls hl => ?_)
          refine lv_goto (tgt := 2) hx hb dX11_findHere_28 (by decide) ?_
          exact ih _ o (hgo _ (Option.some.inj h).symm) H locs ls (lv_sub hl [1, 2, 3, 0] rfl) hP hD hS kk23 kk31
        · replace h := (if_pos (lg_ceq.mp c4)).symm.trans h
          have eo := hst _ (Option.some.inj h).symm
          exact kk23 _ eo.symm H locs ls (lv_sub hl [3] rfl) hP hD hS
  obtain ⟨o2, ho2, h⟩ := bd_elim h
  obtain ⟨n2, hn2⟩ := loopF_some ho2
  refine L2 n2 _ o2 hn2 H locs ls (lv_sub hl [1, 2, 3, 0] rfl) hP hD hS (fun o2a eo H locs ls hl hP hD hS => ?_) (fun o2b eo H locs ls hl hP hD hS => ?_)
  · subst eo
    rw [Sum.elim_inl] at h
    refine lv_iload_n hx hb dX11_findHere_23 rfl (lv_at hl 0 rfl) ?_
    exact hret 24 H locs ls o2a (Option.some.inj h) hP hD hS dX11_findHere_24
  · subst eo
    rw [Sum.elim_inr] at h
    refine lv_iconst (v := -1) hx hb dX11_findHere_31 (by decide) ?_
    exact hret 32 H locs ls (-1 : Int32) (Option.some.inj h) hP hD hS dX11_findHere_32
theorem gd_X11_number : wsX11_number.all goodWord = true := by decide +kernel
set_option maxRecDepth 20000 in
theorem ggX11_number_X11_fails : GoodIn wsX11_number wsX11_fails := goodIn_by gd_X11_number (List.forall_mem_cons.mpr ⟨List.mem_cons_of_mem _ (List.mem_append_left _ (List.mem_append_left _ (List.mem_of_getElem? (i := 7) rfl))), List.forall_mem_append.mpr ⟨List.forall_mem_cons.mpr ⟨List.mem_cons_of_mem _ (List.mem_append_left _ (List.mem_append_left _ (List.mem_of_getElem? (i := 8) rfl))), List.forall_mem_cons.mpr ⟨List.mem_cons_of_mem _ (List.mem_append_left _ (List.mem_append_left _ (List.mem_of_getElem? (i := 0) rfl))), List.forall_mem_cons.mpr ⟨List.mem_cons_of_mem _ (List.mem_append_left _ (List.mem_append_left _ (List.mem_of_getElem? (i := 9) rfl))), List.forall_mem_cons.mpr ⟨List.mem_cons_of_mem _ (List.mem_append_left _ (List.mem_append_left _ (List.mem_of_getElem? (i := 10) rfl))), nowords_in⟩⟩⟩⟩, (fun _ h => List.mem_cons_of_mem _ (List.mem_append_right _ (h)))⟩⟩)
set_option maxRecDepth 20000 in
theorem gX11_number_X11_fails : GoodIn wsX11_number (wsV RX11 157 RX11 yX11_fails wsX11_fails) := goodIn_app (goodIn_by gd_X11_number (List.forall_mem_cons.mpr ⟨List.mem_cons_of_mem _ (List.mem_append_left _ (List.mem_append_left _ (List.mem_of_getElem? (i := 3) rfl))), List.forall_mem_cons.mpr ⟨List.mem_cons_of_mem _ (List.mem_append_left _ (List.mem_append_left _ (List.mem_of_getElem? (i := 4) rfl))), List.forall_mem_cons.mpr ⟨List.mem_cons_of_mem _ (List.mem_append_left _ (List.mem_append_left _ (List.mem_of_getElem? (i := 5) rfl))), List.forall_mem_cons.mpr ⟨List.mem_cons_of_mem _ (List.mem_append_left _ (List.mem_append_left _ (List.mem_of_getElem? (i := 6) rfl))), nowords_in⟩⟩⟩⟩)) ggX11_number_X11_fails
set_option maxRecDepth 20000 in
theorem ggX11_number_X11_ahead : GoodIn wsX11_number wsX11_ahead := goodIn_by gd_X11_number (List.forall_mem_cons.mpr ⟨List.mem_cons_of_mem _ (List.mem_append_left _ (List.mem_append_left _ (List.mem_of_getElem? (i := 14) rfl))), List.forall_mem_append.mpr ⟨List.forall_mem_cons.mpr ⟨List.mem_cons_of_mem _ (List.mem_append_left _ (List.mem_append_left _ (List.mem_of_getElem? (i := 15) rfl))), List.forall_mem_cons.mpr ⟨List.mem_cons_of_mem _ (List.mem_append_left _ (List.mem_append_left _ (List.mem_of_getElem? (i := 9) rfl))), List.forall_mem_cons.mpr ⟨List.mem_cons_of_mem _ (List.mem_append_left _ (List.mem_append_left _ (List.mem_of_getElem? (i := 1) rfl))), List.forall_mem_cons.mpr ⟨List.mem_cons_of_mem _ (List.mem_append_left _ (List.mem_append_left _ (List.mem_of_getElem? (i := 0) rfl))), List.forall_mem_cons.mpr ⟨List.mem_cons_of_mem _ (List.mem_append_left _ (List.mem_append_left _ (List.mem_of_getElem? (i := 16) rfl))), List.forall_mem_cons.mpr ⟨List.mem_cons_of_mem _ (List.mem_append_left _ (List.mem_append_left _ (List.mem_of_getElem? (i := 17) rfl))), List.forall_mem_cons.mpr ⟨List.mem_cons_of_mem _ (List.mem_append_left _ (List.mem_append_left _ (List.mem_of_getElem? (i := 18) rfl))), List.forall_mem_cons.mpr ⟨List.mem_cons_of_mem _ (List.mem_append_left _ (List.mem_append_left _ (List.mem_of_getElem? (i := 19) rfl))), List.forall_mem_cons.mpr ⟨List.mem_cons_of_mem _ (List.mem_append_left _ (List.mem_append_left _ (List.mem_of_getElem? (i := 20) rfl))), List.forall_mem_cons.mpr ⟨List.mem_cons_of_mem _ (List.mem_append_left _ (List.mem_append_left _ (List.mem_of_getElem? (i := 21) rfl))), List.forall_mem_cons.mpr ⟨List.mem_cons_of_mem _ (List.mem_append_left _ (List.mem_append_left _ (List.mem_of_getElem? (i := 22) rfl))), List.forall_mem_cons.mpr ⟨List.mem_cons_of_mem _ (List.mem_append_left _ (List.mem_append_left _ (List.mem_of_getElem? (i := 23) rfl))), List.forall_mem_cons.mpr ⟨List.mem_cons_of_mem _ (List.mem_append_left _ (List.mem_append_left _ (List.mem_of_getElem? (i := 6) rfl))), List.forall_mem_cons.mpr ⟨List.mem_cons_of_mem _ (List.mem_append_left _ (List.mem_append_right _ (List.mem_of_getElem? (i := 0) rfl))), List.forall_mem_cons.mpr ⟨List.mem_cons_of_mem _ (List.mem_append_left _ (List.mem_append_right _ (List.mem_of_getElem? (i := 1) rfl))), List.forall_mem_cons.mpr ⟨List.mem_cons_of_mem _ (List.mem_append_left _ (List.mem_append_right _ (List.mem_of_getElem? (i := 2) rfl))), List.forall_mem_cons.mpr ⟨List.mem_cons_of_mem _ (List.mem_append_left _ (List.mem_append_right _ (List.mem_of_getElem? (i := 3) rfl))), List.forall_mem_cons.mpr ⟨List.mem_cons_of_mem _ (List.mem_append_left _ (List.mem_append_right _ (List.mem_of_getElem? (i := 4) rfl))), List.forall_mem_cons.mpr ⟨List.mem_cons_of_mem _ (List.mem_append_left _ (List.mem_append_right _ (List.mem_of_getElem? (i := 5) rfl))), List.forall_mem_cons.mpr ⟨List.mem_cons_of_mem _ (List.mem_append_left _ (List.mem_append_right _ (List.mem_of_getElem? (i := 6) rfl))), List.forall_mem_cons.mpr ⟨List.mem_cons_of_mem _ (List.mem_append_left _ (List.mem_append_right _ (List.mem_of_getElem? (i := 7) rfl))), List.forall_mem_cons.mpr ⟨List.mem_cons_of_mem _ (List.mem_append_left _ (List.mem_append_right _ (List.mem_of_getElem? (i := 8) rfl))), nowords_in⟩⟩⟩⟩⟩⟩⟩⟩⟩⟩⟩⟩⟩⟩⟩⟩⟩⟩⟩⟩⟩⟩, (fun _ h => List.mem_cons_of_mem _ (List.mem_append_right _ (h)))⟩⟩)
set_option maxRecDepth 20000 in
theorem gX11_number_X11_ahead : GoodIn wsX11_number (wsV RX11 151 RX11 yX11_ahead wsX11_ahead) := goodIn_app (goodIn_by gd_X11_number (List.forall_mem_cons.mpr ⟨List.mem_cons_of_mem _ (List.mem_append_left _ (List.mem_append_left _ (List.mem_of_getElem? (i := 11) rfl))), List.forall_mem_cons.mpr ⟨List.mem_cons_of_mem _ (List.mem_append_left _ (List.mem_append_left _ (List.mem_of_getElem? (i := 12) rfl))), List.forall_mem_cons.mpr ⟨List.mem_cons_of_mem _ (List.mem_append_left _ (List.mem_append_left _ (List.mem_of_getElem? (i := 13) rfl))), List.forall_mem_cons.mpr ⟨List.mem_cons_of_mem _ (List.mem_append_left _ (List.mem_append_left _ (List.mem_of_getElem? (i := 6) rfl))), nowords_in⟩⟩⟩⟩)) ggX11_number_X11_ahead
theorem dX11_number_0 : decode cX11_number 0 = .ok (.aload_n 0, 1) := by decide +kernel
theorem dX11_number_1 : decode cX11_number 1 = .ok (.getfield 120, 3) := by decide +kernel
theorem dX11_number_4 : decode cX11_number 4 = .ok (.iconst 3, 1) := by decide +kernel
theorem dX11_number_5 : decode cX11_number 5 = .ok (.if_icmp .eq 9, 3) := by decide +kernel
theorem dX11_number_8 : decode cX11_number 8 = .ok (.aload_n 0, 1) := by decide +kernel
theorem dX11_number_9 : decode cX11_number 9 = .ok (.iconst 2, 1) := by decide +kernel
theorem dX11_number_10 : decode cX11_number 10 = .ok (.invokevirtual 157, 3) := by decide +kernel
theorem dX11_number_13 : decode cX11_number 13 = .ok (.ireturn, 1) := by decide +kernel
theorem dX11_number_14 : decode cX11_number 14 = .ok (.aload_n 0, 1) := by decide +kernel
theorem dX11_number_15 : decode cX11_number 15 = .ok (.getfield 117, 3) := by decide +kernel
theorem dX11_number_18 : decode cX11_number 18 = .ok (.iload_n 2, 1) := by decide +kernel
theorem dX11_number_19 : decode cX11_number 19 = .ok (.if_icmp .lt 11, 3) := by decide +kernel
theorem dX11_number_22 : decode cX11_number 22 = .ok (.aload_n 0, 1) := by decide +kernel
theorem dX11_number_23 : decode cX11_number 23 = .ok (.getfield 117, 3) := by decide +kernel
theorem dX11_number_26 : decode cX11_number 26 = .ok (.iload_n 3, 1) := by decide +kernel
theorem dX11_number_27 : decode cX11_number 27 = .ok (.if_icmp .le 9, 3) := by decide +kernel
theorem dX11_number_30 : decode cX11_number 30 = .ok (.aload_n 0, 1) := by decide +kernel
theorem dX11_number_31 : decode cX11_number 31 = .ok (.iconst 4, 1) := by decide +kernel
theorem dX11_number_32 : decode cX11_number 32 = .ok (.invokevirtual 157, 3) := by decide +kernel
theorem dX11_number_35 : decode cX11_number 35 = .ok (.ireturn, 1) := by decide +kernel
theorem dX11_number_36 : decode cX11_number 36 = .ok (.aload_n 0, 1) := by decide +kernel
theorem dX11_number_37 : decode cX11_number 37 = .ok (.getfield 7, 3) := by decide +kernel
theorem dX11_number_40 : decode cX11_number 40 = .ok (.iload_n 1, 1) := by decide +kernel
theorem dX11_number_41 : decode cX11_number 41 = .ok (.aload_n 0, 1) := by decide +kernel
theorem dX11_number_42 : decode cX11_number 42 = .ok (.getfield 117, 3) := by decide +kernel
theorem dX11_number_45 : decode cX11_number 45 = .ok (.iastore, 1) := by decide +kernel
theorem dX11_number_46 : decode cX11_number 46 = .ok (.aload_n 0, 1) := by decide +kernel
theorem dX11_number_47 : decode cX11_number 47 = .ok (.invokevirtual 151, 3) := by decide +kernel
theorem dX11_number_50 : decode cX11_number 50 = .ok (.iconst 1, 1) := by decide +kernel
theorem dX11_number_51 : decode cX11_number 51 = .ok (.ireturn, 1) := by decide +kernel
abbrev rmX11_number : Room := { frames := 2, cells := 0, slots := 0, locals := 42 }
set_option maxHeartbeats 4000000 in
set_option maxRecDepth 100000 in
theorem kX11_number (l : Launch) (D : va_G) (cy : Nat → ClassId) (h0 : Nat) (a0 : Nat → Nat) (s0 : Rc) (p1 : Int32) (p2 : Int32) (p3 : Int32) (res : Int32 × Rc) (h : fX11_number p1 p2 p3 s0 = some res) : CZ l D cy yX11_number wsX11_number rmX11_number [.ref h0, .int p1, .int p2, .int p3] (flat [WX11 cy h0 a0 s0]) (flat [WX11 cy h0 a0 res.2]) res.1 := by
  refine CZ.of (cc := cX11_number) (maxL := 4) (by decide) rfl (Nat.le_of_ble_eq_true rfl) ?_
  intro p e s m args below meth c A QQ ls E hr
  obtain ⟨hx, hb, hml, hown, hts, hK, hN, hP, hD, hA, hl⟩ := E
  have hret : ∀ (pc : Nat) (H : Heap) (locs : List Loc) (ls : Array Slot) (u : Int32 × Rc), u = res → va_P D vwCl (flat [WX11 cy h0 a0 u.2]) H → va_D A (flat [WX11 cy h0 a0 u.2]) → va_S A s.heap H locs → isb u.1 = true → decode cX11_number pc = .ok (.ireturn, 1) → W p l e rmX11_number s m args below meth c H locs 0 0 QQ (F0 m pc ls [.int u.1]) := by
    intro pc H locs ls u hu hP hD hS hz hd; subst hu; exact hr pc H locs ls _ rfl hP hD hS hz hd
  clear hr
  have hl : lv_has ls 4 [(0, .ref h0), (1, .int p1), (2, .int p2), (3, .int p3)] := hl
  have hinX11 : ∀ w ∈ wsX110, w ∈ wsX11_number := fun _ h => List.mem_cons_of_mem _ (List.mem_append_right _ h)
  unfold fX11_number at h
  suffices key : ∀ (H : Heap) (locs : List Loc), va_P D vwCl (flat [WX11 cy h0 a0 s0]) H → va_S A s.heap H locs → W p l e rmX11_number s m args below meth c H locs 0 0 QQ (F0 m 0 ls []) from key _ _ hP va_S.rf
  clear hP
  intro H locs hP hS
  refine lv_aload_n hx hb dX11_number_0 rfl (lv_at hl 0 rfl) ?_
  refine va_get (D := D) (ci := 11) (v := .int (gi s0 12)) (C := RX11) (T := TX11) (N := 38) hx hb hts hinX11 hown hK hP 0 rfl rfl 12 (by decide) (hts (.fieldLink RX11 120 "KneeBenchModel" "token" "I") (List.mem_of_getElem? (i := 1) rfl)) (fun _ h9 => h9) rfl dX11_number_1 ?_
  refine lv_iconst (v := 3) hx hb dX11_number_4 (by decide) ?_
  refine lv_icmp_eq (tgt := 14) hx hb dX11_number_5 (by decide) (fun c1 => ?_) (fun c1 => ?_)
  · replace h := (if_pos c1).symm.trans h
    refine lv_aload_n hx hb dX11_number_14 rfl (lv_at hl 0 rfl) ?_
    refine va_get (D := D) (ci := 11) (v := .int (gi s0 15)) (C := RX11) (T := TX11) (N := 38) hx hb hts hinX11 hown hK hP 0 rfl rfl 15 (by decide) (hts (.fieldLink RX11 117 "KneeBenchModel" "value" "I") (List.mem_of_getElem? (i := 2) rfl)) (fun _ h9 => h9) rfl dX11_number_15 ?_
    refine lv_iload_n hx hb dX11_number_18 rfl (lv_at hl 2 rfl) ?_
    refine lv_icmp_lt (tgt := 30) hx hb dX11_number_19 (by decide) (fun c2 => ?_) (fun c2 => ?_)
    · replace h := (if_pos c2).symm.trans h
      refine lv_aload_n hx hb dX11_number_30 rfl (lv_at hl 0 rfl) ?_
      refine lv_iconst (v := 4) hx hb dX11_number_31 (by decide) ?_
      obtain ⟨r3, hr3, h⟩ := lt_elim h
      refine ca_z (w' := [WX11 cy h0 a0 r3.2]) (rn_V (As := [.int (4 : Int32)]) (rest := []) ⟨hx, hb, hml, hown, hts⟩ (kX11_fails l D cy h0 a0 s0 (4 : Int32) r3 hr3.symm H.size) (cwV 1 hts gX11_number_X11_fails rfl rfl rfl (by decide +kernel) ⟨Nat.le_of_ble_eq_true rfl, Nat.le_of_ble_eq_true rfl⟩) hK hN hP hD [0] rfl rfl (ci := 11) (q0 := 0) rfl rfl rfl rfl hl.1 rfl (Nat.le_of_ble_eq_true rfl) dX11_number_32 ⟨Nat.le_refl 0, Nat.le_refl 0⟩) hP hD hS hA [0] ⟨rfl, rfl, rfl, rfl⟩ (fun b4 H locs hP hD hS => ?_)
      exact hret 35 H locs ls (r3.1, r3.2) (Option.some.inj h) hP hD hS b4 dX11_number_35
    · replace h := (if_neg c2).symm.trans h
      refine lv_aload_n hx hb dX11_number_22 rfl (lv_at hl 0 rfl) ?_
      refine va_get (D := D) (ci := 11) (v := .int (gi s0 15)) (C := RX11) (T := TX11) (N := 38) hx hb hts hinX11 hown hK hP 0 rfl rfl 15 (by decide) (hts (.fieldLink RX11 117 "KneeBenchModel" "value" "I") (List.mem_of_getElem? (i := 2) rfl)) (fun _ h9 => h9) rfl dX11_number_23 ?_
      refine lv_iload_n hx hb dX11_number_26 rfl (lv_at hl 3 rfl) ?_
      refine lv_icmp_le (tgt := 36) hx hb dX11_number_27 (by decide) (fun c5 => ?_) (fun c5 => ?_)
      · replace h := (if_pos c5).symm.trans h
        refine lv_aload_n hx hb dX11_number_36 rfl (lv_at hl 0 rfl) ?_
        refine va_get (D := D) (ci := 11) (v := .ref (a0 0)) (C := RX11) (T := TX11) (N := 38) hx hb hts hinX11 hown hK hP 0 rfl rfl 0 (by decide) (hts (.fieldLink RX11 7 "KneeBenchModel" "at" "[I") (List.mem_of_getElem? (i := 3) rfl)) (fun _ h9 => h9) rfl dX11_number_37 ?_
        refine lv_iload_n hx hb dX11_number_40 rfl (lv_at hl 1 rfl) ?_
        refine lv_aload_n hx hb dX11_number_41 rfl (lv_at hl 0 rfl) ?_
        refine va_get (D := D) (ci := 11) (v := .int (gi s0 15)) (C := RX11) (T := TX11) (N := 38) hx hb hts hinX11 hown hK hP 0 rfl rfl 15 (by decide) (hts (.fieldLink RX11 117 "KneeBenchModel" "value" "I") (List.mem_of_getElem? (i := 2) rfl)) (fun _ h9 => h9) rfl dX11_number_42 ?_
        obtain ⟨g6, h⟩ := gd_elim h
        obtain ⟨s0_7, es, h⟩ := lt_elim h
        refine va_iast hx hb hK hP hD hS 1 1 rfl rfl (inb_in g6) dX11_number_45 (fun H locs hP hD hS => ?_)
        have hP : va_P D vwCl (flat [WX11 cy h0 a0 s0_7]) H := by rw [es]; exact hP
        have hD : va_D A (flat [WX11 cy h0 a0 s0_7]) := by rw [es]; exact hD
        clear es
        refine lv_aload_n hx hb dX11_number_46 rfl (lv_at hl 0 rfl) ?_
        obtain ⟨r8, hr8, h⟩ := bd_elim h
        refine ca_v (w' := [WX11 cy h0 a0 r8]) (rn_V (As := []) (rest := []) ⟨hx, hb, hml, hown, hts⟩ (kX11_ahead l D cy h0 a0 s0_7 r8 hr8 H.size) (cwV 0 hts gX11_number_X11_ahead rfl rfl rfl (by decide +kernel) ⟨Nat.le_of_ble_eq_true rfl, Nat.le_of_ble_eq_true rfl⟩) hK hN hP hD [0] rfl rfl (ci := 11) (q0 := 0) rfl rfl rfl rfl hl.1 rfl (Nat.le_of_ble_eq_true rfl) dX11_number_47 ⟨Nat.le_refl 0, Nat.le_refl 0⟩) hP hD hS hA [0] ⟨rfl, rfl, rfl, rfl⟩ (fun H locs hP hD hS => ?_)
        refine lv_iconst (v := 1) hx hb dX11_number_50 (by decide) ?_
        exact hret 51 H locs ls ((1 : Int32), r8) (Option.some.inj h) hP hD hS (show isb (1 : Int32) = true by decide) dX11_number_51
      · replace h := (if_neg c5).symm.trans h
        refine lv_aload_n hx hb dX11_number_30 rfl (lv_at hl 0 rfl) ?_
        refine lv_iconst (v := 4) hx hb dX11_number_31 (by decide) ?_
        obtain ⟨r9, hr9, h⟩ := lt_elim h
        refine ca_z (w' := [WX11 cy h0 a0 r9.2]) (rn_V (As := [.int (4 : Int32)]) (rest := []) ⟨hx, hb, hml, hown, hts⟩ (kX11_fails l D cy h0 a0 s0 (4 : Int32) r9 hr9.symm H.size) (cwV 1 hts gX11_number_X11_fails rfl rfl rfl (by decide +kernel) ⟨Nat.le_of_ble_eq_true rfl, Nat.le_of_ble_eq_true rfl⟩) hK hN hP hD [0] rfl rfl (ci := 11) (q0 := 0) rfl rfl rfl rfl hl.1 rfl (Nat.le_of_ble_eq_true rfl) dX11_number_32 ⟨Nat.le_refl 0, Nat.le_refl 0⟩) hP hD hS hA [0] ⟨rfl, rfl, rfl, rfl⟩ (fun b10 H locs hP hD hS => ?_)
        exact hret 35 H locs ls (r9.1, r9.2) (Option.some.inj h) hP hD hS b10 dX11_number_35
  · replace h := (if_neg c1).symm.trans h
    refine lv_aload_n hx hb dX11_number_8 rfl (lv_at hl 0 rfl) ?_
    refine lv_iconst (v := 2) hx hb dX11_number_9 (by decide) ?_
    obtain ⟨r11, hr11, h⟩ := lt_elim h
    refine ca_z (w' := [WX11 cy h0 a0 r11.2]) (rn_V (As := [.int (2 : Int32)]) (rest := []) ⟨hx, hb, hml, hown, hts⟩ (kX11_fails l D cy h0 a0 s0 (2 : Int32) r11 hr11.symm H.size) (cwV 1 hts gX11_number_X11_fails rfl rfl rfl (by decide +kernel) ⟨Nat.le_of_ble_eq_true rfl, Nat.le_of_ble_eq_true rfl⟩) hK hN hP hD [0] rfl rfl (ci := 11) (q0 := 0) rfl rfl rfl rfl hl.1 rfl (Nat.le_of_ble_eq_true rfl) dX11_number_10 ⟨Nat.le_refl 0, Nat.le_refl 0⟩) hP hD hS hA [0] ⟨rfl, rfl, rfl, rfl⟩ (fun b12 H locs hP hD hS => ?_)
    exact hret 13 H locs ls (r11.1, r11.2) (Option.some.inj h) hP hD hS b12 dX11_number_13
theorem dX11_farmerRow_0 : decode cX11_farmerRow 0 = .ok (.iload_n 0, 1) := by decide +kernel
theorem dX11_farmerRow_1 : decode cX11_farmerRow 1 = .ok (.bipush 10, 2) := by decide +kernel
theorem dX11_farmerRow_3 : decode cX11_farmerRow 3 = .ok (.iadd, 1) := by decide +kernel
theorem dX11_farmerRow_4 : decode cX11_farmerRow 4 = .ok (.bipush 6, 2) := by decide +kernel
theorem dX11_farmerRow_6 : decode cX11_farmerRow 6 = .ok (.iload_n 1, 1) := by decide +kernel
theorem dX11_farmerRow_7 : decode cX11_farmerRow 7 = .ok (.imul, 1) := by decide +kernel
theorem dX11_farmerRow_8 : decode cX11_farmerRow 8 = .ok (.iadd, 1) := by decide +kernel
theorem dX11_farmerRow_9 : decode cX11_farmerRow 9 = .ok (.ireturn, 1) := by decide +kernel
abbrev rmX11_farmerRow : Room := { frames := 0, cells := 0, slots := 0, locals := 0 }
set_option maxHeartbeats 4000000 in
set_option maxRecDepth 100000 in
theorem kX11_farmerRow (l : Launch) (D : va_G) (cy : Nat → ClassId) (p1 : Int32) (p2 : Int32) (res : Int32) (h : fX11_farmerRow p1 p2 = res) : CI l D cy yX11_farmerRow wsX11_farmerRow rmX11_farmerRow [.int p1, .int p2] (flat []) (flat []) res := by
  refine CI.of (cc := cX11_farmerRow) (maxL := 2) (by decide) rfl (Nat.le_of_ble_eq_true rfl) ?_
  intro p e s m args below meth c A QQ ls E hr
  obtain ⟨hx, hb, hml, hown, hts, hK, hN, hP, hD, hA, hl⟩ := E
  have hret : ∀ (pc : Nat) (H : Heap) (locs : List Loc) (ls : Array Slot) (u : Int32), u = res → va_P D vwCl (flat []) H → va_D A (flat []) → va_S A s.heap H locs → decode cX11_farmerRow pc = .ok (.ireturn, 1) → W p l e rmX11_farmerRow s m args below meth c H locs 0 0 QQ (F0 m pc ls [.int u]) := by
    intro pc H locs ls u hu hP hD hS hd; subst hu; exact hr pc H locs ls _ rfl hP hD hS hd
  clear hr
  have hl : lv_has ls 2 [(0, .int p1), (1, .int p2)] := hl
  unfold fX11_farmerRow at h
  suffices key : ∀ (H : Heap) (locs : List Loc), va_P D vwCl (flat []) H → va_S A s.heap H locs → W p l e rmX11_farmerRow s m args below meth c H locs 0 0 QQ (F0 m 0 ls []) from key _ _ hP va_S.rf
  clear hP
  intro H locs hP hS
  refine lv_iload_n hx hb dX11_farmerRow_0 rfl (lv_at hl 0 rfl) ?_
  refine lv_bipush (v := 10) hx hb dX11_farmerRow_1 (by decide) ?_
  refine lv_iadd hx hb dX11_farmerRow_3 ?_
  refine lv_bipush (v := 6) hx hb dX11_farmerRow_4 (by decide) ?_
  refine lv_iload_n hx hb dX11_farmerRow_6 rfl (lv_at hl 1 rfl) ?_
  refine lv_imul hx hb dX11_farmerRow_7 ?_
  refine lv_iadd hx hb dX11_farmerRow_8 ?_
  exact hret 9 H locs ls ((p1 + (10 : Int32)) + ((6 : Int32) * p2)) h hP hD hS dX11_farmerRow_9
theorem dX11_skyOf_0 : decode cX11_skyOf 0 = .ok (.iload_n 0, 1) := by decide +kernel
theorem dX11_skyOf_1 : decode cX11_skyOf 1 = .ok (.bipush 100, 2) := by decide +kernel
theorem dX11_skyOf_3 : decode cX11_skyOf 3 = .ok (.if_icmp .ne 7, 3) := by decide +kernel
theorem dX11_skyOf_6 : decode cX11_skyOf 6 = .ok (.iconst 0, 1) := by decide +kernel
theorem dX11_skyOf_7 : decode cX11_skyOf 7 = .ok (.goto 24, 3) := by decide +kernel
theorem dX11_skyOf_10 : decode cX11_skyOf 10 = .ok (.iload_n 0, 1) := by decide +kernel
theorem dX11_skyOf_11 : decode cX11_skyOf 11 = .ok (.bipush 114, 2) := by decide +kernel
theorem dX11_skyOf_13 : decode cX11_skyOf 13 = .ok (.if_icmp .ne 7, 3) := by decide +kernel
theorem dX11_skyOf_16 : decode cX11_skyOf 16 = .ok (.iconst 1, 1) := by decide +kernel
theorem dX11_skyOf_17 : decode cX11_skyOf 17 = .ok (.goto 14, 3) := by decide +kernel
theorem dX11_skyOf_20 : decode cX11_skyOf 20 = .ok (.iload_n 0, 1) := by decide +kernel
theorem dX11_skyOf_21 : decode cX11_skyOf 21 = .ok (.bipush 104, 2) := by decide +kernel
theorem dX11_skyOf_23 : decode cX11_skyOf 23 = .ok (.if_icmp .ne 7, 3) := by decide +kernel
theorem dX11_skyOf_26 : decode cX11_skyOf 26 = .ok (.iconst 2, 1) := by decide +kernel
theorem dX11_skyOf_27 : decode cX11_skyOf 27 = .ok (.goto 4, 3) := by decide +kernel
theorem dX11_skyOf_30 : decode cX11_skyOf 30 = .ok (.iconst (-1), 1) := by decide +kernel
theorem dX11_skyOf_31 : decode cX11_skyOf 31 = .ok (.ireturn, 1) := by decide +kernel
abbrev rmX11_skyOf : Room := { frames := 0, cells := 0, slots := 0, locals := 0 }
set_option maxHeartbeats 4000000 in
set_option maxRecDepth 100000 in
theorem kX11_skyOf (l : Launch) (D : va_G) (cy : Nat → ClassId) (p1 : Int32) (res : Int32) (h : fX11_skyOf p1 = res) : CI l D cy yX11_skyOf wsX11_skyOf rmX11_skyOf [.int p1] (flat []) (flat []) res := by
  refine CI.of (cc := cX11_skyOf) (maxL := 1) (by decide) rfl (Nat.le_of_ble_eq_true rfl) ?_
  intro p e s m args below meth c A QQ ls E hr
  obtain ⟨hx, hb, hml, hown, hts, hK, hN, hP, hD, hA, hl⟩ := E
  have hret : ∀ (pc : Nat) (H : Heap) (locs : List Loc) (ls : Array Slot) (u : Int32), u = res → va_P D vwCl (flat []) H → va_D A (flat []) → va_S A s.heap H locs → decode cX11_skyOf pc = .ok (.ireturn, 1) → W p l e rmX11_skyOf s m args below meth c H locs 0 0 QQ (F0 m pc ls [.int u]) := by
    intro pc H locs ls u hu hP hD hS hd; subst hu; exact hr pc H locs ls _ rfl hP hD hS hd
  clear hr
  have hl : lv_has ls 1 [(0, .int p1)] := hl
  unfold fX11_skyOf at h
  suffices key : ∀ (H : Heap) (locs : List Loc), va_P D vwCl (flat []) H → va_S A s.heap H locs → W p l e rmX11_skyOf s m args below meth c H locs 0 0 QQ (F0 m 0 ls []) from key _ _ hP va_S.rf
  clear hP
  intro H locs hP hS
  refine lv_iload_n hx hb dX11_skyOf_0 rfl (lv_at hl 0 rfl) ?_
  refine lv_bipush (v := 100) hx hb dX11_skyOf_1 (by decide) ?_
  refine lv_icmp_ne (tgt := 10) hx hb dX11_skyOf_3 (by decide) (fun c1 => ?_) (fun c1 => ?_)
  · replace h := (if_neg c1).symm.trans h
    refine lv_iload_n hx hb dX11_skyOf_10 rfl (lv_at hl 0 rfl) ?_
    refine lv_bipush (v := 114) hx hb dX11_skyOf_11 (by decide) ?_
    refine lv_icmp_ne (tgt := 20) hx hb dX11_skyOf_13 (by decide) (fun c2 => ?_) (fun c2 => ?_)
    · replace h := (if_neg c2).symm.trans h
      refine lv_iload_n hx hb dX11_skyOf_20 rfl (lv_at hl 0 rfl) ?_
      refine lv_bipush (v := 104) hx hb dX11_skyOf_21 (by decide) ?_
      refine lv_icmp_ne (tgt := 30) hx hb dX11_skyOf_23 (by decide) (fun c3 => ?_) (fun c3 => ?_)
      · replace h := (if_neg c3).symm.trans h
        refine lv_iconst (v := -1) hx hb dX11_skyOf_30 (by decide) ?_
        exact hret 31 H locs ls (-1 : Int32) h hP hD hS dX11_skyOf_31
      · replace h := (if_pos c3).symm.trans h
        refine lv_iconst (v := 2) hx hb dX11_skyOf_26 (by decide) ?_
        refine lv_goto (tgt := 31) hx hb dX11_skyOf_27 (by decide) ?_
        exact hret 31 H locs ls (2 : Int32) h hP hD hS dX11_skyOf_31
    · replace h := (if_pos c2).symm.trans h
      refine lv_iconst (v := 1) hx hb dX11_skyOf_16 (by decide) ?_
      refine lv_goto (tgt := 31) hx hb dX11_skyOf_17 (by decide) ?_
      exact hret 31 H locs ls (1 : Int32) h hP hD hS dX11_skyOf_31
  · replace h := (if_pos c1).symm.trans h
    refine lv_iconst (v := 0) hx hb dX11_skyOf_6 (by decide) ?_
    refine lv_goto (tgt := 31) hx hb dX11_skyOf_7 (by decide) ?_
    exact hret 31 H locs ls (0 : Int32) h hP hD hS dX11_skyOf_31
theorem gd_X11_aWeather : wsX11_aWeather.all goodWord = true := by decide +kernel
set_option maxRecDepth 20000 in
theorem ggX11_aWeather_X11_ahead : GoodIn wsX11_aWeather wsX11_ahead := goodIn_by gd_X11_aWeather (List.forall_mem_cons.mpr ⟨List.mem_cons_of_mem _ (List.mem_append_left _ (List.mem_append_left _ (List.mem_of_getElem? (i := 8) rfl))), List.forall_mem_append.mpr ⟨List.forall_mem_cons.mpr ⟨List.mem_cons_of_mem _ (List.mem_append_left _ (List.mem_append_left _ (List.mem_of_getElem? (i := 1) rfl))), List.forall_mem_cons.mpr ⟨List.mem_cons_of_mem _ (List.mem_append_left _ (List.mem_append_left _ (List.mem_of_getElem? (i := 2) rfl))), List.forall_mem_cons.mpr ⟨List.mem_cons_of_mem _ (List.mem_append_left _ (List.mem_append_left _ (List.mem_of_getElem? (i := 9) rfl))), List.forall_mem_cons.mpr ⟨List.mem_cons_of_mem _ (List.mem_append_left _ (List.mem_append_left _ (List.mem_of_getElem? (i := 0) rfl))), List.forall_mem_cons.mpr ⟨List.mem_cons_of_mem _ (List.mem_append_left _ (List.mem_append_left _ (List.mem_of_getElem? (i := 10) rfl))), List.forall_mem_cons.mpr ⟨List.mem_cons_of_mem _ (List.mem_append_left _ (List.mem_append_left _ (List.mem_of_getElem? (i := 11) rfl))), List.forall_mem_cons.mpr ⟨List.mem_cons_of_mem _ (List.mem_append_left _ (List.mem_append_left _ (List.mem_of_getElem? (i := 12) rfl))), List.forall_mem_cons.mpr ⟨List.mem_cons_of_mem _ (List.mem_append_left _ (List.mem_append_left _ (List.mem_of_getElem? (i := 13) rfl))), List.forall_mem_cons.mpr ⟨List.mem_cons_of_mem _ (List.mem_append_left _ (List.mem_append_left _ (List.mem_of_getElem? (i := 14) rfl))), List.forall_mem_cons.mpr ⟨List.mem_cons_of_mem _ (List.mem_append_left _ (List.mem_append_left _ (List.mem_of_getElem? (i := 15) rfl))), List.forall_mem_cons.mpr ⟨List.mem_cons_of_mem _ (List.mem_append_left _ (List.mem_append_left _ (List.mem_of_getElem? (i := 16) rfl))), List.forall_mem_cons.mpr ⟨List.mem_cons_of_mem _ (List.mem_append_left _ (List.mem_append_left _ (List.mem_of_getElem? (i := 17) rfl))), List.forall_mem_cons.mpr ⟨List.mem_cons_of_mem _ (List.mem_append_left _ (List.mem_append_left _ (List.mem_of_getElem? (i := 7) rfl))), List.forall_mem_cons.mpr ⟨List.mem_cons_of_mem _ (List.mem_append_left _ (List.mem_append_left _ (List.mem_of_getElem? (i := 18) rfl))), List.forall_mem_cons.mpr ⟨List.mem_cons_of_mem _ (List.mem_append_left _ (List.mem_append_left _ (List.mem_of_getElem? (i := 19) rfl))), List.forall_mem_cons.mpr ⟨List.mem_cons_of_mem _ (List.mem_append_left _ (List.mem_append_left _ (List.mem_of_getElem? (i := 20) rfl))), List.forall_mem_cons.mpr ⟨List.mem_cons_of_mem _ (List.mem_append_left _ (List.mem_append_left _ (List.mem_of_getElem? (i := 21) rfl))), List.forall_mem_cons.mpr ⟨List.mem_cons_of_mem _ (List.mem_append_left _ (List.mem_append_left _ (List.mem_of_getElem? (i := 22) rfl))), List.forall_mem_cons.mpr ⟨List.mem_cons_of_mem _ (List.mem_append_left _ (List.mem_append_left _ (List.mem_of_getElem? (i := 23) rfl))), List.forall_mem_cons.mpr ⟨List.mem_cons_of_mem _ (List.mem_append_left _ (List.mem_append_right _ (List.mem_of_getElem? (i := 0) rfl))), List.forall_mem_cons.mpr ⟨List.mem_cons_of_mem _ (List.mem_append_left _ (List.mem_append_right _ (List.mem_of_getElem? (i := 1) rfl))), List.forall_mem_cons.mpr ⟨List.mem_cons_of_mem _ (List.mem_append_left _ (List.mem_append_right _ (List.mem_of_getElem? (i := 2) rfl))), nowords_in⟩⟩⟩⟩⟩⟩⟩⟩⟩⟩⟩⟩⟩⟩⟩⟩⟩⟩⟩⟩⟩⟩, (fun _ h => List.mem_cons_of_mem _ (List.mem_append_right _ (h)))⟩⟩)
set_option maxRecDepth 20000 in
theorem gX11_aWeather_X11_ahead : GoodIn wsX11_aWeather (wsV RX11 151 RX11 yX11_ahead wsX11_ahead) := goodIn_app (goodIn_by gd_X11_aWeather (List.forall_mem_cons.mpr ⟨List.mem_cons_of_mem _ (List.mem_append_left _ (List.mem_append_left _ (List.mem_of_getElem? (i := 4) rfl))), List.forall_mem_cons.mpr ⟨List.mem_cons_of_mem _ (List.mem_append_left _ (List.mem_append_left _ (List.mem_of_getElem? (i := 5) rfl))), List.forall_mem_cons.mpr ⟨List.mem_cons_of_mem _ (List.mem_append_left _ (List.mem_append_left _ (List.mem_of_getElem? (i := 6) rfl))), List.forall_mem_cons.mpr ⟨List.mem_cons_of_mem _ (List.mem_append_left _ (List.mem_append_left _ (List.mem_of_getElem? (i := 7) rfl))), nowords_in⟩⟩⟩⟩)) ggX11_aWeather_X11_ahead
set_option maxRecDepth 20000 in
theorem ggX11_aWeather_X11_fails : GoodIn wsX11_aWeather wsX11_fails := goodIn_by gd_X11_aWeather (List.forall_mem_cons.mpr ⟨List.mem_cons_of_mem _ (List.mem_append_left _ (List.mem_append_right _ (List.mem_of_getElem? (i := 6) rfl))), List.forall_mem_append.mpr ⟨List.forall_mem_cons.mpr ⟨List.mem_cons_of_mem _ (List.mem_append_left _ (List.mem_append_right _ (List.mem_of_getElem? (i := 7) rfl))), List.forall_mem_cons.mpr ⟨List.mem_cons_of_mem _ (List.mem_append_left _ (List.mem_append_left _ (List.mem_of_getElem? (i := 0) rfl))), List.forall_mem_cons.mpr ⟨List.mem_cons_of_mem _ (List.mem_append_left _ (List.mem_append_left _ (List.mem_of_getElem? (i := 2) rfl))), List.forall_mem_cons.mpr ⟨List.mem_cons_of_mem _ (List.mem_append_left _ (List.mem_append_right _ (List.mem_of_getElem? (i := 8) rfl))), nowords_in⟩⟩⟩⟩, (fun _ h => List.mem_cons_of_mem _ (List.mem_append_right _ (h)))⟩⟩)
set_option maxRecDepth 20000 in
theorem gX11_aWeather_X11_fails : GoodIn wsX11_aWeather (wsV RX11 157 RX11 yX11_fails wsX11_fails) := goodIn_app (goodIn_by gd_X11_aWeather (List.forall_mem_cons.mpr ⟨List.mem_cons_of_mem _ (List.mem_append_left _ (List.mem_append_right _ (List.mem_of_getElem? (i := 3) rfl))), List.forall_mem_cons.mpr ⟨List.mem_cons_of_mem _ (List.mem_append_left _ (List.mem_append_right _ (List.mem_of_getElem? (i := 4) rfl))), List.forall_mem_cons.mpr ⟨List.mem_cons_of_mem _ (List.mem_append_left _ (List.mem_append_right _ (List.mem_of_getElem? (i := 5) rfl))), List.forall_mem_cons.mpr ⟨List.mem_cons_of_mem _ (List.mem_append_left _ (List.mem_append_left _ (List.mem_of_getElem? (i := 7) rfl))), nowords_in⟩⟩⟩⟩)) ggX11_aWeather_X11_fails
set_option maxRecDepth 20000 in
theorem ggX11_aWeather_X11_byteAt : GoodIn wsX11_aWeather wsX11_byteAt := goodIn_by gd_X11_aWeather (List.forall_mem_cons.mpr ⟨List.mem_cons_of_mem _ (List.mem_append_left _ (List.mem_append_left _ (List.mem_of_getElem? (i := 18) rfl))), List.forall_mem_append.mpr ⟨List.forall_mem_cons.mpr ⟨List.mem_cons_of_mem _ (List.mem_append_left _ (List.mem_append_left _ (List.mem_of_getElem? (i := 19) rfl))), List.forall_mem_cons.mpr ⟨List.mem_cons_of_mem _ (List.mem_append_left _ (List.mem_append_left _ (List.mem_of_getElem? (i := 20) rfl))), nowords_in⟩⟩, (fun _ h => List.mem_cons_of_mem _ (List.mem_append_right _ (h)))⟩⟩)
set_option maxRecDepth 20000 in
theorem gX11_aWeather_X11_byteAt : GoodIn wsX11_aWeather (wsV RX11 111 RX11 yX11_byteAt wsX11_byteAt) := goodIn_app (goodIn_by gd_X11_aWeather (List.forall_mem_cons.mpr ⟨List.mem_cons_of_mem _ (List.mem_append_left _ (List.mem_append_left _ (List.mem_of_getElem? (i := 15) rfl))), List.forall_mem_cons.mpr ⟨List.mem_cons_of_mem _ (List.mem_append_left _ (List.mem_append_left _ (List.mem_of_getElem? (i := 16) rfl))), List.forall_mem_cons.mpr ⟨List.mem_cons_of_mem _ (List.mem_append_left _ (List.mem_append_left _ (List.mem_of_getElem? (i := 17) rfl))), List.forall_mem_cons.mpr ⟨List.mem_cons_of_mem _ (List.mem_append_left _ (List.mem_append_left _ (List.mem_of_getElem? (i := 7) rfl))), nowords_in⟩⟩⟩⟩)) ggX11_aWeather_X11_byteAt
set_option maxRecDepth 20000 in
theorem ggX11_aWeather_X11_skyOf : GoodIn wsX11_aWeather wsX11_skyOf := goodIn_by gd_X11_aWeather (List.forall_mem_cons.mpr ⟨List.mem_cons_of_mem _ (List.mem_append_left _ (List.mem_append_right _ (List.mem_of_getElem? (i := 11) rfl))), nowords_in⟩)
set_option maxRecDepth 20000 in
theorem gX11_aWeather_X11_skyOf : GoodIn wsX11_aWeather (va_wsS RX11 195 yX11_skyOf wsX11_skyOf) := goodIn_app (goodIn_by gd_X11_aWeather (List.forall_mem_cons.mpr ⟨List.mem_cons_of_mem _ (List.mem_append_left _ (List.mem_append_right _ (List.mem_of_getElem? (i := 9) rfl))), List.forall_mem_cons.mpr ⟨List.mem_cons_of_mem _ (List.mem_append_left _ (List.mem_append_right _ (List.mem_of_getElem? (i := 10) rfl))), List.forall_mem_cons.mpr ⟨List.mem_cons_of_mem _ (List.mem_append_left _ (List.mem_append_left _ (List.mem_of_getElem? (i := 7) rfl))), nowords_in⟩⟩⟩)) ggX11_aWeather_X11_skyOf
theorem dX11_aWeather_0 : decode cX11_aWeather 0 = .ok (.aload_n 0, 1) := by decide +kernel
theorem dX11_aWeather_1 : decode cX11_aWeather 1 = .ok (.invokevirtual 151, 3) := by decide +kernel
theorem dX11_aWeather_4 : decode cX11_aWeather 4 = .ok (.aload_n 0, 1) := by decide +kernel
theorem dX11_aWeather_5 : decode cX11_aWeather 5 = .ok (.getfield 120, 3) := by decide +kernel
theorem dX11_aWeather_8 : decode cX11_aWeather 8 = .ok (.iconst 2, 1) := by decide +kernel
theorem dX11_aWeather_9 : decode cX11_aWeather 9 = .ok (.if_icmp .ne 17, 3) := by decide +kernel
theorem dX11_aWeather_12 : decode cX11_aWeather 12 = .ok (.aload_n 0, 1) := by decide +kernel
theorem dX11_aWeather_13 : decode cX11_aWeather 13 = .ok (.getfield 108, 3) := by decide +kernel
theorem dX11_aWeather_16 : decode cX11_aWeather 16 = .ok (.aload_n 0, 1) := by decide +kernel
theorem dX11_aWeather_17 : decode cX11_aWeather 17 = .ok (.getfield 114, 3) := by decide +kernel
theorem dX11_aWeather_20 : decode cX11_aWeather 20 = .ok (.isub, 1) := by decide +kernel
theorem dX11_aWeather_21 : decode cX11_aWeather 21 = .ok (.bipush 60, 2) := by decide +kernel
theorem dX11_aWeather_23 : decode cX11_aWeather 23 = .ok (.if_icmp .le 9, 3) := by decide +kernel
theorem dX11_aWeather_26 : decode cX11_aWeather 26 = .ok (.aload_n 0, 1) := by decide +kernel
theorem dX11_aWeather_27 : decode cX11_aWeather 27 = .ok (.iconst 2, 1) := by decide +kernel
theorem dX11_aWeather_28 : decode cX11_aWeather 28 = .ok (.invokevirtual 157, 3) := by decide +kernel
theorem dX11_aWeather_31 : decode cX11_aWeather 31 = .ok (.ireturn, 1) := by decide +kernel
theorem dX11_aWeather_32 : decode cX11_aWeather 32 = .ok (.aload_n 0, 1) := by decide +kernel
theorem dX11_aWeather_33 : decode cX11_aWeather 33 = .ok (.getfield 114, 3) := by decide +kernel
theorem dX11_aWeather_36 : decode cX11_aWeather 36 = .ok (.istore_n 1, 1) := by decide +kernel
theorem dX11_aWeather_37 : decode cX11_aWeather 37 = .ok (.iload_n 1, 1) := by decide +kernel
theorem dX11_aWeather_38 : decode cX11_aWeather 38 = .ok (.aload_n 0, 1) := by decide +kernel
theorem dX11_aWeather_39 : decode cX11_aWeather 39 = .ok (.getfield 108, 3) := by decide +kernel
theorem dX11_aWeather_42 : decode cX11_aWeather 42 = .ok (.if_icmp .ge 27, 3) := by decide +kernel
theorem dX11_aWeather_45 : decode cX11_aWeather 45 = .ok (.aload_n 0, 1) := by decide +kernel
theorem dX11_aWeather_46 : decode cX11_aWeather 46 = .ok (.iload_n 1, 1) := by decide +kernel
theorem dX11_aWeather_47 : decode cX11_aWeather 47 = .ok (.invokevirtual 111, 3) := by decide +kernel
theorem dX11_aWeather_50 : decode cX11_aWeather 50 = .ok (.invokestatic 195, 3) := by decide +kernel
theorem dX11_aWeather_53 : decode cX11_aWeather 53 = .ok (.iconst (-1), 1) := by decide +kernel
theorem dX11_aWeather_54 : decode cX11_aWeather 54 = .ok (.if_icmp .ne 9, 3) := by decide +kernel
theorem dX11_aWeather_57 : decode cX11_aWeather 57 = .ok (.aload_n 0, 1) := by decide +kernel
theorem dX11_aWeather_58 : decode cX11_aWeather 58 = .ok (.iconst 2, 1) := by decide +kernel
theorem dX11_aWeather_59 : decode cX11_aWeather 59 = .ok (.invokevirtual 157, 3) := by decide +kernel
theorem dX11_aWeather_62 : decode cX11_aWeather 62 = .ok (.ireturn, 1) := by decide +kernel
theorem dX11_aWeather_63 : decode cX11_aWeather 63 = .ok (.iinc 1 1, 3) := by decide +kernel
theorem dX11_aWeather_66 : decode cX11_aWeather 66 = .ok (.goto (-29), 3) := by decide +kernel
theorem dX11_aWeather_69 : decode cX11_aWeather 69 = .ok (.aload_n 0, 1) := by decide +kernel
theorem dX11_aWeather_70 : decode cX11_aWeather 70 = .ok (.getfield 7, 3) := by decide +kernel
theorem dX11_aWeather_73 : decode cX11_aWeather 73 = .ok (.sipush 4161, 3) := by decide +kernel
theorem dX11_aWeather_76 : decode cX11_aWeather 76 = .ok (.iaload, 1) := by decide +kernel
theorem dX11_aWeather_77 : decode cX11_aWeather 77 = .ok (.aload_n 0, 1) := by decide +kernel
theorem dX11_aWeather_78 : decode cX11_aWeather 78 = .ok (.getfield 108, 3) := by decide +kernel
theorem dX11_aWeather_81 : decode cX11_aWeather 81 = .ok (.iadd, 1) := by decide +kernel
theorem dX11_aWeather_82 : decode cX11_aWeather 82 = .ok (.aload_n 0, 1) := by decide +kernel
theorem dX11_aWeather_83 : decode cX11_aWeather 83 = .ok (.getfield 114, 3) := by decide +kernel
theorem dX11_aWeather_86 : decode cX11_aWeather 86 = .ok (.isub, 1) := by decide +kernel
theorem dX11_aWeather_87 : decode cX11_aWeather 87 = .ok (.bipush 60, 2) := by decide +kernel
theorem dX11_aWeather_89 : decode cX11_aWeather 89 = .ok (.if_icmp .le 10, 3) := by decide +kernel
theorem dX11_aWeather_92 : decode cX11_aWeather 92 = .ok (.aload_n 0, 1) := by decide +kernel
theorem dX11_aWeather_93 : decode cX11_aWeather 93 = .ok (.bipush 6, 2) := by decide +kernel
theorem dX11_aWeather_95 : decode cX11_aWeather 95 = .ok (.invokevirtual 157, 3) := by decide +kernel
theorem dX11_aWeather_98 : decode cX11_aWeather 98 = .ok (.ireturn, 1) := by decide +kernel
theorem dX11_aWeather_99 : decode cX11_aWeather 99 = .ok (.aload_n 0, 1) := by decide +kernel
theorem dX11_aWeather_100 : decode cX11_aWeather 100 = .ok (.getfield 114, 3) := by decide +kernel
theorem dX11_aWeather_103 : decode cX11_aWeather 103 = .ok (.istore_n 1, 1) := by decide +kernel
theorem dX11_aWeather_104 : decode cX11_aWeather 104 = .ok (.iload_n 1, 1) := by decide +kernel
theorem dX11_aWeather_105 : decode cX11_aWeather 105 = .ok (.aload_n 0, 1) := by decide +kernel
theorem dX11_aWeather_106 : decode cX11_aWeather 106 = .ok (.getfield 108, 3) := by decide +kernel
theorem dX11_aWeather_109 : decode cX11_aWeather 109 = .ok (.if_icmp .ge 46, 3) := by decide +kernel
theorem dX11_aWeather_112 : decode cX11_aWeather 112 = .ok (.aload_n 0, 1) := by decide +kernel
theorem dX11_aWeather_113 : decode cX11_aWeather 113 = .ok (.getfield 7, 3) := by decide +kernel
theorem dX11_aWeather_116 : decode cX11_aWeather 116 = .ok (.sipush 4282, 3) := by decide +kernel
theorem dX11_aWeather_119 : decode cX11_aWeather 119 = .ok (.aload_n 0, 1) := by decide +kernel
theorem dX11_aWeather_120 : decode cX11_aWeather 120 = .ok (.getfield 7, 3) := by decide +kernel
theorem dX11_aWeather_123 : decode cX11_aWeather 123 = .ok (.sipush 4161, 3) := by decide +kernel
theorem dX11_aWeather_126 : decode cX11_aWeather 126 = .ok (.iaload, 1) := by decide +kernel
theorem dX11_aWeather_127 : decode cX11_aWeather 127 = .ok (.iadd, 1) := by decide +kernel
theorem dX11_aWeather_128 : decode cX11_aWeather 128 = .ok (.aload_n 0, 1) := by decide +kernel
theorem dX11_aWeather_129 : decode cX11_aWeather 129 = .ok (.iload_n 1, 1) := by decide +kernel
theorem dX11_aWeather_130 : decode cX11_aWeather 130 = .ok (.invokevirtual 111, 3) := by decide +kernel
theorem dX11_aWeather_133 : decode cX11_aWeather 133 = .ok (.invokestatic 195, 3) := by decide +kernel
theorem dX11_aWeather_136 : decode cX11_aWeather 136 = .ok (.iastore, 1) := by decide +kernel
theorem dX11_aWeather_137 : decode cX11_aWeather 137 = .ok (.aload_n 0, 1) := by decide +kernel
theorem dX11_aWeather_138 : decode cX11_aWeather 138 = .ok (.getfield 7, 3) := by decide +kernel
theorem dX11_aWeather_141 : decode cX11_aWeather 141 = .ok (.sipush 4161, 3) := by decide +kernel
theorem dX11_aWeather_144 : decode cX11_aWeather 144 = .ok (.dup2, 1) := by decide +kernel
theorem dX11_aWeather_145 : decode cX11_aWeather 145 = .ok (.iaload, 1) := by decide +kernel
theorem dX11_aWeather_146 : decode cX11_aWeather 146 = .ok (.iconst 1, 1) := by decide +kernel
theorem dX11_aWeather_147 : decode cX11_aWeather 147 = .ok (.iadd, 1) := by decide +kernel
theorem dX11_aWeather_148 : decode cX11_aWeather 148 = .ok (.iastore, 1) := by decide +kernel
theorem dX11_aWeather_149 : decode cX11_aWeather 149 = .ok (.iinc 1 1, 3) := by decide +kernel
theorem dX11_aWeather_152 : decode cX11_aWeather 152 = .ok (.goto (-48), 3) := by decide +kernel
theorem dX11_aWeather_155 : decode cX11_aWeather 155 = .ok (.aload_n 0, 1) := by decide +kernel
theorem dX11_aWeather_156 : decode cX11_aWeather 156 = .ok (.invokevirtual 151, 3) := by decide +kernel
theorem dX11_aWeather_159 : decode cX11_aWeather 159 = .ok (.iconst 1, 1) := by decide +kernel
theorem dX11_aWeather_160 : decode cX11_aWeather 160 = .ok (.ireturn, 1) := by decide +kernel
abbrev rmX11_aWeather : Room := { frames := 2, cells := 0, slots := 0, locals := 42 }
set_option maxHeartbeats 4000000 in
set_option maxRecDepth 100000 in
theorem kX11_aWeather (l : Launch) (D : va_G) (cy : Nat → ClassId) (h0 : Nat) (a0 : Nat → Nat) (s0 : Rc) (res : Int32 × Rc) (h : fX11_aWeather s0 = some res) : CZ l D cy yX11_aWeather wsX11_aWeather rmX11_aWeather [.ref h0] (flat [WX11 cy h0 a0 s0]) (flat [WX11 cy h0 a0 res.2]) res.1 := by
  refine CZ.of (cc := cX11_aWeather) (maxL := 2) (by decide) rfl (Nat.le_of_ble_eq_true rfl) ?_
  intro p e s m args below meth c A QQ ls E hr
  obtain ⟨hx, hb, hml, hown, hts, hK, hN, hP, hD, hA, hl⟩ := E
  have hret : ∀ (pc : Nat) (H : Heap) (locs : List Loc) (ls : Array Slot) (u : Int32 × Rc), u = res → va_P D vwCl (flat [WX11 cy h0 a0 u.2]) H → va_D A (flat [WX11 cy h0 a0 u.2]) → va_S A s.heap H locs → isb u.1 = true → decode cX11_aWeather pc = .ok (.ireturn, 1) → W p l e rmX11_aWeather s m args below meth c H locs 0 0 QQ (F0 m pc ls [.int u.1]) := by
    intro pc H locs ls u hu hP hD hS hz hd; subst hu; exact hr pc H locs ls _ rfl hP hD hS hz hd
  clear hr
  have hl : lv_has ls 2 [(0, .ref h0)] := hl
  have hinX11 : ∀ w ∈ wsX110, w ∈ wsX11_aWeather := fun _ h => List.mem_cons_of_mem _ (List.mem_append_right _ h)
  unfold fX11_aWeather at h
  suffices key : ∀ (H : Heap) (locs : List Loc), va_P D vwCl (flat [WX11 cy h0 a0 s0]) H → va_S A s.heap H locs → W p l e rmX11_aWeather s m args below meth c H locs 0 0 QQ (F0 m 0 ls []) from key _ _ hP va_S.rf
  clear hP
  intro H locs hP hS
  refine lv_aload_n hx hb dX11_aWeather_0 rfl (lv_at hl 0 rfl) ?_
  obtain ⟨r1, hr1, h⟩ := bd_elim h
  refine ca_v (w' := [WX11 cy h0 a0 r1]) (rn_V (As := []) (rest := []) ⟨hx, hb, hml, hown, hts⟩ (kX11_ahead l D cy h0 a0 s0 r1 hr1 H.size) (cwV 0 hts gX11_aWeather_X11_ahead rfl rfl rfl (by decide +kernel) ⟨Nat.le_of_ble_eq_true rfl, Nat.le_of_ble_eq_true rfl⟩) hK hN hP hD [0] rfl rfl (ci := 11) (q0 := 0) rfl rfl rfl rfl hl.1 rfl (Nat.le_of_ble_eq_true rfl) dX11_aWeather_1 ⟨Nat.le_refl 0, Nat.le_refl 0⟩) hP hD hS hA [0] ⟨rfl, rfl, rfl, rfl⟩ (fun H locs hP hD hS => ?_)
  refine lv_aload_n hx hb dX11_aWeather_4 rfl (lv_at hl 0 rfl) ?_
  refine va_get (D := D) (ci := 11) (v := .int (gi r1 12)) (C := RX11) (T := TX11) (N := 38) hx hb hts hinX11 hown hK hP 0 rfl rfl 12 (by decide) (hts (.fieldLink RX11 120 "KneeBenchModel" "token" "I") (List.mem_of_getElem? (i := 1) rfl)) (fun _ h9 => h9) rfl dX11_aWeather_5 ?_
  refine lv_iconst (v := 2) hx hb dX11_aWeather_8 (by decide) ?_
  refine lv_icmp_ne (tgt := 26) hx hb dX11_aWeather_9 (by decide) (fun c2 => ?_) (fun c2 => ?_)
  · replace h := (if_neg c2).symm.trans h
    refine lv_aload_n hx hb dX11_aWeather_26 rfl (lv_at hl 0 rfl) ?_
    refine lv_iconst (v := 2) hx hb dX11_aWeather_27 (by decide) ?_
    obtain ⟨r3, hr3, h⟩ := lt_elim h
    refine ca_z (w' := [WX11 cy h0 a0 r3.2]) (rn_V (As := [.int (2 : Int32)]) (rest := []) ⟨hx, hb, hml, hown, hts⟩ (kX11_fails l D cy h0 a0 r1 (2 : Int32) r3 hr3.symm H.size) (cwV 1 hts gX11_aWeather_X11_fails rfl rfl rfl (by decide +kernel) ⟨Nat.le_of_ble_eq_true rfl, Nat.le_of_ble_eq_true rfl⟩) hK hN hP hD [0] rfl rfl (ci := 11) (q0 := 0) rfl rfl rfl rfl hl.1 rfl (Nat.le_of_ble_eq_true rfl) dX11_aWeather_28 ⟨Nat.le_refl 0, Nat.le_refl 0⟩) hP hD hS hA [0] ⟨rfl, rfl, rfl, rfl⟩ (fun b4 H locs hP hD hS => ?_)
    exact hret 31 H locs ls (r3.1, r3.2) (Option.some.inj h) hP hD hS b4 dX11_aWeather_31
  · replace h := (if_pos c2).symm.trans h
    refine lv_aload_n hx hb dX11_aWeather_12 rfl (lv_at hl 0 rfl) ?_
    refine va_get (D := D) (ci := 11) (v := .int (gi r1 14)) (C := RX11) (T := TX11) (N := 38) hx hb hts hinX11 hown hK hP 0 rfl rfl 14 (by decide) (hts (.fieldLink RX11 108 "KneeBenchModel" "end" "I") (List.mem_of_getElem? (i := 2) rfl)) (fun _ h9 => h9) rfl dX11_aWeather_13 ?_
    refine lv_aload_n hx hb dX11_aWeather_16 rfl (lv_at hl 0 rfl) ?_
    refine va_get (D := D) (ci := 11) (v := .int (gi r1 13)) (C := RX11) (T := TX11) (N := 38) hx hb hts hinX11 hown hK hP 0 rfl rfl 13 (by decide) (hts (.fieldLink RX11 114 "KneeBenchModel" "from" "I") (List.mem_of_getElem? (i := 3) rfl)) (fun _ h9 => h9) rfl dX11_aWeather_17 ?_
    refine lv_isub hx hb dX11_aWeather_20 ?_
    refine lv_bipush (v := 60) hx hb dX11_aWeather_21 (by decide) ?_
    refine lv_icmp_le (tgt := 32) hx hb dX11_aWeather_23 (by decide) (fun c5 => ?_) (fun c5 => ?_)
    · replace h := (if_pos c5).symm.trans h
      refine lv_aload_n hx hb dX11_aWeather_32 rfl (lv_at hl 0 rfl) ?_
      refine va_get (D := D) (ci := 11) (v := .int (gi r1 13)) (C := RX11) (T := TX11) (N := 38) hx hb hts hinX11 hown hK hP 0 rfl rfl 13 (by decide) (hts (.fieldLink RX11 114 "KneeBenchModel" "from" "I") (List.mem_of_getElem? (i := 3) rfl)) (fun _ h9 => h9) rfl dX11_aWeather_33 ?_
      refine lv_topi (fun x6 ex6 => ?_)
      replace h := lt_use h x6 ex6
      refine lv_istore_n (lv' := [(1, .int x6), (0, .ref h0)]) hx hb dX11_aWeather_36 rfl hl (by decide) rfl (fun ls hl => ?_)
      have L37 : ∀ (n : Nat) (q37 : Int32) (o : (Unit) ⊕ (Unit)), loopO (fX11_aWeather_L37 r1) n q37 = some o → ∀ (H : Heap) (locs : List Loc) (ls : Array Slot), lv_has ls 2 [(0, .ref h0), (1, .int q37)] → va_P D vwCl (flat [WX11 cy h0 a0 r1]) H → va_D A (flat [WX11 cy h0 a0 r1]) → va_S A s.heap H locs → ∀ (kk57 : ∀ v : Unit, o = (.inl v) → ∀ (H : Heap) (locs : List Loc) (ls : Array Slot), lv_has ls 2 [(0, .ref h0)] → va_P D vwCl (flat [WX11 cy h0 a0 r1]) H → va_D A (flat [WX11 cy h0 a0 r1]) → va_S A s.heap H locs → W p l e rmX11_aWeather s m args below meth c H locs 0 0 QQ (F0 m 57 ls [])) (kk69 : ∀ v : Unit, o = (.inr v) → ∀ (H : Heap) (locs : List Loc) (ls : Array Slot), lv_has ls 2 [(0, .ref h0)] → va_P D vwCl (flat [WX11 cy h0 a0 r1]) H → va_D A (flat [WX11 cy h0 a0 r1]) → va_S A s.heap H locs → W p l e rmX11_aWeather s m args below meth c H locs 0 0 QQ (F0 m 69 ls [])), W p l e rmX11_aWeather s m args below meth c H locs 0 0 QQ (F0 m 37 ls []) := by
        intro n
        induction n with
        | zero => intro q37 o h; exact absurd h (by rw [loopO_zero]; intro z; cases z)
        | succ n ih =>
          intro q37 o h H locs ls hl hP hD hS kk57 kk69
          obtain ⟨w, h, hgo, hst⟩ := loopO_elim h
          unfold fX11_aWeather_L37 at h
          refine lv_iload_n hx hb dX11_aWeather_37 rfl (lv_at hl 1 rfl) ?_
          refine lv_aload_n hx hb dX11_aWeather_38 rfl (lv_at hl 0 rfl) ?_
          refine va_get (D := D) (ci := 11) (v := .int (gi r1 14)) (C := RX11) (T := TX11) (N := 38) hx hb hts hinX11 hown hK hP 0 rfl rfl 14 (by decide) (hts (.fieldLink RX11 108 "KneeBenchModel" "end" "I") (List.mem_of_getElem? (i := 2) rfl)) (fun _ h9 => h9) rfl dX11_aWeather_39 ?_
          refine lv_icmp_ge (tgt := 69) hx hb dX11_aWeather_42 (by decide) (fun c7 => ?_) (fun c7 => ?_)
          · replace h := (if_pos c7).symm.trans h
            have eo := hst _ (Option.some.inj h).symm
            exact kk69 _ eo.symm H locs ls (lv_sub hl [0] rfl) hP hD hS
          · replace h := (if_neg c7).symm.trans h
            refine lv_aload_n hx hb dX11_aWeather_45 rfl (lv_at hl 0 rfl) ?_
            refine lv_iload_n hx hb dX11_aWeather_46 rfl (lv_at hl 1 rfl) ?_
            obtain ⟨r8, hr8, h⟩ := bd_elim h
            refine ca_i (w' := [WX11 cy h0 a0 r1]) (rn_V (As := [.int q37]) (rest := []) ⟨hx, hb, hml, hown, hts⟩ (kX11_byteAt l D cy h0 a0 r1 q37 r8 hr8 H.size) (cwV 1 hts gX11_aWeather_X11_byteAt rfl rfl rfl (by decide +kernel) ⟨Nat.le_of_ble_eq_true rfl, Nat.le_of_ble_eq_true rfl⟩) hK hN hP hD [0] rfl rfl (ci := 11) (q0 := 0) rfl rfl rfl rfl hl.1 rfl (Nat.le_of_ble_eq_true rfl) dX11_aWeather_47 ⟨Nat.le_refl 0, Nat.le_refl 0⟩) hP hD hS hA [0] ⟨rfl, rfl, rfl, rfl⟩ (fun H locs hP hD hS => ?_)
            refine ca_i (w' := [WX11 cy h0 a0 r1]) (rn_S (As := [.int r8]) (rest := []) ⟨hx, hb, hml, hown, hts⟩ (kX11_skyOf l D cy r8 _ rfl H.size) (va_cwS 1 hts gX11_aWeather_X11_skyOf rfl rfl rfl (by decide +kernel) ⟨Nat.le_of_ble_eq_true rfl, Nat.le_of_ble_eq_true rfl⟩) hK hN hP hD [] rfl rfl rfl hl.1 rfl (Nat.le_of_ble_eq_true rfl) dX11_aWeather_50 ⟨Nat.le_refl 0, Nat.le_refl 0⟩) hP hD hS hA [] ⟨rfl, rfl, rfl, rfl⟩ (fun H locs hP hD hS => ?_)
            refine lv_iconst (v := -1) hx hb dX11_aWeather_53 (by decide) ?_
            refine lv_icmp_ne (tgt := 63) hx hb dX11_aWeather_54 (by decide) (fun c9 => ?_) (fun c9 => ?_)
            · replace h := (if_neg c9).symm.trans h
              refine lv_iinc (v := (q37 + (1 : Int32))) (lv' := [(1, .int (q37 + (1 : Int32))), (0, .ref h0)]) hx hb dX11_aWeather_63 hl (k := 1) rfl rfl (by decide) rfl (fun ls hl => ?_)
              refine lv_goto (tgt := 37) hx hb dX11_aWeather_66 (by decide) ?_
              exact ih _ o (hgo _ (Option.some.inj h).symm) H locs ls (lv_sub hl [1, 0] rfl) hP hD hS kk57 kk69
            · replace h := (if_pos c9).symm.trans h
              have eo := hst _ (Option.some.inj h).symm
              exact kk57 _ eo.symm H locs ls (lv_sub hl [0] rfl) hP hD hS
      obtain ⟨o37, ho37, h⟩ := bd_elim h
      obtain ⟨n37, hn37⟩ := loopF_some ho37
      refine L37 n37 _ o37 hn37 H locs ls (lv_sub hl [1, 0] rfl) hP hD hS (fun o37a eo H locs ls hl hP hD hS => ?_) (fun o37b eo H locs ls hl hP hD hS => ?_)
      · subst eo
        rw [Sum.elim_inl] at h
        refine lv_aload_n hx hb dX11_aWeather_57 rfl (lv_at hl 0 rfl) ?_
        refine lv_iconst (v := 2) hx hb dX11_aWeather_58 (by decide) ?_
        obtain ⟨r10, hr10, h⟩ := lt_elim h
        refine ca_z (w' := [WX11 cy h0 a0 r10.2]) (rn_V (As := [.int (2 : Int32)]) (rest := []) ⟨hx, hb, hml, hown, hts⟩ (kX11_fails l D cy h0 a0 r1 (2 : Int32) r10 hr10.symm H.size) (cwV 1 hts gX11_aWeather_X11_fails rfl rfl rfl (by decide +kernel) ⟨Nat.le_of_ble_eq_true rfl, Nat.le_of_ble_eq_true rfl⟩) hK hN hP hD [0] rfl rfl (ci := 11) (q0 := 0) rfl rfl rfl rfl hl.1 rfl (Nat.le_of_ble_eq_true rfl) dX11_aWeather_59 ⟨Nat.le_refl 0, Nat.le_refl 0⟩) hP hD hS hA [0] ⟨rfl, rfl, rfl, rfl⟩ (fun b11 H locs hP hD hS => ?_)
        exact hret 62 H locs ls (r10.1, r10.2) (Option.some.inj h) hP hD hS b11 dX11_aWeather_62
      · subst eo
        rw [Sum.elim_inr] at h
        refine lv_aload_n hx hb dX11_aWeather_69 rfl (lv_at hl 0 rfl) ?_
        refine va_get (D := D) (ci := 11) (v := .ref (a0 0)) (C := RX11) (T := TX11) (N := 38) hx hb hts hinX11 hown hK hP 0 rfl rfl 0 (by decide) (hts (.fieldLink RX11 7 "KneeBenchModel" "at" "[I") (List.mem_of_getElem? (i := 4) rfl)) (fun _ h9 => h9) rfl dX11_aWeather_70 ?_
        refine lv_sipush (v := 4161) hx hb dX11_aWeather_73 (by decide) ?_
        refine va_iald hx hb hK hP 1 1 rfl rfl (inb_in (by decide)) dX11_aWeather_76 ?_
        refine lv_aload_n hx hb dX11_aWeather_77 rfl (lv_at hl 0 rfl) ?_
        refine va_get (D := D) (ci := 11) (v := .int (gi r1 14)) (C := RX11) (T := TX11) (N := 38) hx hb hts hinX11 hown hK hP 0 rfl rfl 14 (by decide) (hts (.fieldLink RX11 108 "KneeBenchModel" "end" "I") (List.mem_of_getElem? (i := 2) rfl)) (fun _ h9 => h9) rfl dX11_aWeather_78 ?_
        refine lv_iadd hx hb dX11_aWeather_81 ?_
        refine lv_aload_n hx hb dX11_aWeather_82 rfl (lv_at hl 0 rfl) ?_
        refine va_get (D := D) (ci := 11) (v := .int (gi r1 13)) (C := RX11) (T := TX11) (N := 38) hx hb hts hinX11 hown hK hP 0 rfl rfl 13 (by decide) (hts (.fieldLink RX11 114 "KneeBenchModel" "from" "I") (List.mem_of_getElem? (i := 3) rfl)) (fun _ h9 => h9) rfl dX11_aWeather_83 ?_
        refine lv_isub hx hb dX11_aWeather_86 ?_
        refine lv_bipush (v := 60) hx hb dX11_aWeather_87 (by decide) ?_
        refine lv_icmp_le (tgt := 99) hx hb dX11_aWeather_89 (by decide) (fun c12 => ?_) (fun c12 => ?_)
        · replace h := (if_pos c12).symm.trans h
          refine lv_aload_n hx hb dX11_aWeather_99 rfl (lv_at hl 0 rfl) ?_
          refine va_get (D := D) (ci := 11) (v := .int (gi r1 13)) (C := RX11) (T := TX11) (N := 38) hx hb hts hinX11 hown hK hP 0 rfl rfl 13 (by decide) (hts (.fieldLink RX11 114 "KneeBenchModel" "from" "I") (List.mem_of_getElem? (i := 3) rfl)) (fun _ h9 => h9) rfl dX11_aWeather_100 ?_
          refine lv_topi (fun x13 ex13 => ?_)
          replace h := lt_use h x13 ex13
          refine lv_istore_n (lv' := [(1, .int x13), (0, .ref h0)]) hx hb dX11_aWeather_103 rfl hl (by decide) rfl (fun ls hl => ?_)
          have L104 : ∀ (n : Nat) (q104 : Int32 × Rc) (o : Rc), loopO (fX11_aWeather_L104) n q104 = some o → ∀ (H : Heap) (locs : List Loc) (ls : Array Slot), lv_has ls 2 [(0, .ref h0), (1, .int q104.1)] → va_P D vwCl (flat [WX11 cy h0 a0 q104.2]) H → va_D A (flat [WX11 cy h0 a0 q104.2]) → va_S A s.heap H locs → ∀ (kk155 : ∀ (H : Heap) (locs : List Loc) (ls : Array Slot), lv_has ls 2 [(0, .ref h0)] → va_P D vwCl (flat [WX11 cy h0 a0 o]) H → va_D A (flat [WX11 cy h0 a0 o]) → va_S A s.heap H locs → W p l e rmX11_aWeather s m args below meth c H locs 0 0 QQ (F0 m 155 ls [])), W p l e rmX11_aWeather s m args below meth c H locs 0 0 QQ (F0 m 104 ls []) := by
            intro n
            induction n with
            | zero => intro q104 o h; exact absurd h (by rw [loopO_zero]; intro z; cases z)
            | succ n ih =>
              intro q104 o h H locs ls hl hP hD hS kk155
              obtain ⟨w, h, hgo, hst⟩ := loopO_elim h
              unfold fX11_aWeather_L104 at h
              refine lv_iload_n hx hb dX11_aWeather_104 rfl (lv_at hl 1 rfl) ?_
              refine lv_aload_n hx hb dX11_aWeather_105 rfl (lv_at hl 0 rfl) ?_
              refine va_get (D := D) (ci := 11) (v := .int (gi q104.2 14)) (C := RX11) (T := TX11) (N := 38) hx hb hts hinX11 hown hK hP 0 rfl rfl 14 (by decide) (hts (.fieldLink RX11 108 "KneeBenchModel" "end" "I") (List.mem_of_getElem? (i := 2) rfl)) (fun _ h9 => h9) rfl dX11_aWeather_106 ?_
              refine lv_icmp_ge (tgt := 155) hx hb dX11_aWeather_109 (by decide) (fun c14 => ?_) (fun c14 => ?_)
              · replace h := (if_pos c14).symm.trans h
                have eo := hst _ (Option.some.inj h).symm
                subst eo
                exact kk155 H locs ls (lv_sub hl [0] rfl) hP hD hS
              · replace h := (if_neg c14).symm.trans h
                refine lv_aload_n hx hb dX11_aWeather_112 rfl (lv_at hl 0 rfl) ?_
                refine va_get (D := D) (ci := 11) (v := .ref (a0 0)) (C := RX11) (T := TX11) (N := 38) hx hb hts hinX11 hown hK hP 0 rfl rfl 0 (by decide) (hts (.fieldLink RX11 7 "KneeBenchModel" "at" "[I") (List.mem_of_getElem? (i := 4) rfl)) (fun _ h9 => h9) rfl dX11_aWeather_113 ?_
                refine lv_sipush (v := 4282) hx hb dX11_aWeather_116 (by decide) ?_
                refine lv_aload_n hx hb dX11_aWeather_119 rfl (lv_at hl 0 rfl) ?_
                refine va_get (D := D) (ci := 11) (v := .ref (a0 0)) (C := RX11) (T := TX11) (N := 38) hx hb hts hinX11 hown hK hP 0 rfl rfl 0 (by decide) (hts (.fieldLink RX11 7 "KneeBenchModel" "at" "[I") (List.mem_of_getElem? (i := 4) rfl)) (fun _ h9 => h9) rfl dX11_aWeather_120 ?_
                refine lv_sipush (v := 4161) hx hb dX11_aWeather_123 (by decide) ?_
                refine va_iald hx hb hK hP 1 1 rfl rfl (inb_in (by decide)) dX11_aWeather_126 ?_
                refine lv_iadd hx hb dX11_aWeather_127 ?_
                refine lv_aload_n hx hb dX11_aWeather_128 rfl (lv_at hl 0 rfl) ?_
                refine lv_iload_n hx hb dX11_aWeather_129 rfl (lv_at hl 1 rfl) ?_
                obtain ⟨r15, hr15, h⟩ := bd_elim h
                refine ca_i (w' := [WX11 cy h0 a0 q104.2]) (rn_V (As := [.int q104.1]) (rest := [.int ((4282 : Int32) + (ga q104.2 0 (4161 : Int32).toNatClampNeg)), .ref (a0 0)]) ⟨hx, hb, hml, hown, hts⟩ (kX11_byteAt l D cy h0 a0 q104.2 q104.1 r15 hr15 H.size) (cwV 1 hts gX11_aWeather_X11_byteAt rfl rfl rfl (by decide +kernel) ⟨Nat.le_of_ble_eq_true rfl, Nat.le_of_ble_eq_true rfl⟩) hK hN hP hD [0] rfl rfl (ci := 11) (q0 := 0) rfl rfl rfl rfl hl.1 rfl (Nat.le_of_ble_eq_true rfl) dX11_aWeather_130 ⟨Nat.le_refl 0, Nat.le_refl 0⟩) hP hD hS hA [0] ⟨rfl, rfl, rfl, rfl⟩ (fun H locs hP hD hS => ?_)
                refine ca_i (w' := [WX11 cy h0 a0 q104.2]) (rn_S (As := [.int r15]) (rest := [.int ((4282 : Int32) + (ga q104.2 0 (4161 : Int32).toNatClampNeg)), .ref (a0 0)]) ⟨hx, hb, hml, hown, hts⟩ (kX11_skyOf l D cy r15 _ rfl H.size) (va_cwS 1 hts gX11_aWeather_X11_skyOf rfl rfl rfl (by decide +kernel) ⟨Nat.le_of_ble_eq_true rfl, Nat.le_of_ble_eq_true rfl⟩) hK hN hP hD [] rfl rfl rfl hl.1 rfl (Nat.le_of_ble_eq_true rfl) dX11_aWeather_133 ⟨Nat.le_refl 0, Nat.le_refl 0⟩) hP hD hS hA [] ⟨rfl, rfl, rfl, rfl⟩ (fun H locs hP hD hS => ?_)
                obtain ⟨g16, h⟩ := gd_elim h
                obtain ⟨s0_17, es, h⟩ := lt_elim h
                refine va_iast hx hb hK hP hD hS 1 1 rfl rfl (inb_in g16) dX11_aWeather_136 (fun H locs hP hD hS => ?_)
                have hP : va_P D vwCl (flat [WX11 cy h0 a0 s0_17]) H := by rw [es]; exact hP
                have hD : va_D A (flat [WX11 cy h0 a0 s0_17]) := by rw [es]; exact hD
                clear es
                refine lv_aload_n hx hb dX11_aWeather_137 rfl (lv_at hl 0 rfl) ?_
                refine va_get (D := D) (ci := 11) (v := .ref (a0 0)) (C := RX11) (T := TX11) (N := 38) hx hb hts hinX11 hown hK hP 0 rfl rfl 0 (by decide) (hts (.fieldLink RX11 7 "KneeBenchModel" "at" "[I") (List.mem_of_getElem? (i := 4) rfl)) (fun _ h9 => h9) rfl dX11_aWeather_138 ?_
                refine lv_sipush (v := 4161) hx hb dX11_aWeather_141 (by decide) ?_
                refine lv_dup2_11 hx hb dX11_aWeather_144 rfl rfl ?_
                refine va_iald hx hb hK hP 1 1 rfl rfl (inb_in (by decide)) dX11_aWeather_145 ?_
                refine lv_iconst (v := 1) hx hb dX11_aWeather_146 (by decide) ?_
                refine lv_iadd hx hb dX11_aWeather_147 ?_
                obtain ⟨s0_18, es, h⟩ := lt_elim h
                refine va_iast hx hb hK hP hD hS 1 1 rfl rfl (inb_in (by decide)) dX11_aWeather_148 (fun H locs hP hD hS => ?_)
                have hP : va_P D vwCl (flat [WX11 cy h0 a0 s0_18]) H := by rw [es]; exact hP
                have hD : va_D A (flat [WX11 cy h0 a0 s0_18]) := by rw [es]; exact hD
                clear es
                refine lv_iinc (v := (q104.1 + (1 : Int32))) (lv' := [(1, .int (q104.1 + (1 : Int32))), (0, .ref h0)]) hx hb dX11_aWeather_149 hl (k := 1) rfl rfl (by decide) rfl (fun ls hl => ?_)
                refine lv_goto (tgt := 104) hx hb dX11_aWeather_152 (by decide) ?_
                exact ih _ o (hgo _ (Option.some.inj h).symm) H locs ls (lv_sub hl [1, 0] rfl) hP hD hS kk155
          obtain ⟨o104, ho104, h⟩ := bd_elim h
          obtain ⟨n104, hn104⟩ := loopF_some ho104
          refine L104 n104 _ o104 hn104 H locs ls (lv_sub hl [1, 0] rfl) hP hD hS (fun H locs ls hl hP hD hS => ?_)
          refine lv_aload_n hx hb dX11_aWeather_155 rfl (lv_at hl 0 rfl) ?_
          obtain ⟨r19, hr19, h⟩ := bd_elim h
          refine ca_v (w' := [WX11 cy h0 a0 r19]) (rn_V (As := []) (rest := []) ⟨hx, hb, hml, hown, hts⟩ (kX11_ahead l D cy h0 a0 o104 r19 hr19 H.size) (cwV 0 hts gX11_aWeather_X11_ahead rfl rfl rfl (by decide +kernel) ⟨Nat.le_of_ble_eq_true rfl, Nat.le_of_ble_eq_true rfl⟩) hK hN hP hD [0] rfl rfl (ci := 11) (q0 := 0) rfl rfl rfl rfl hl.1 rfl (Nat.le_of_ble_eq_true rfl) dX11_aWeather_156 ⟨Nat.le_refl 0, Nat.le_refl 0⟩) hP hD hS hA [0] ⟨rfl, rfl, rfl, rfl⟩ (fun H locs hP hD hS => ?_)
          refine lv_iconst (v := 1) hx hb dX11_aWeather_159 (by decide) ?_
          exact hret 160 H locs ls ((1 : Int32), r19) (Option.some.inj h) hP hD hS (show isb (1 : Int32) = true by decide) dX11_aWeather_160
        · replace h := (if_neg c12).symm.trans h
          refine lv_aload_n hx hb dX11_aWeather_92 rfl (lv_at hl 0 rfl) ?_
          refine lv_bipush (v := 6) hx hb dX11_aWeather_93 (by decide) ?_
          obtain ⟨r20, hr20, h⟩ := lt_elim h
          refine ca_z (w' := [WX11 cy h0 a0 r20.2]) (rn_V (As := [.int (6 : Int32)]) (rest := []) ⟨hx, hb, hml, hown, hts⟩ (kX11_fails l D cy h0 a0 r1 (6 : Int32) r20 hr20.symm H.size) (cwV 1 hts gX11_aWeather_X11_fails rfl rfl rfl (by decide +kernel) ⟨Nat.le_of_ble_eq_true rfl, Nat.le_of_ble_eq_true rfl⟩) hK hN hP hD [0] rfl rfl (ci := 11) (q0 := 0) rfl rfl rfl rfl hl.1 rfl (Nat.le_of_ble_eq_true rfl) dX11_aWeather_95 ⟨Nat.le_refl 0, Nat.le_refl 0⟩) hP hD hS hA [0] ⟨rfl, rfl, rfl, rfl⟩ (fun b21 H locs hP hD hS => ?_)
          exact hret 98 H locs ls (r20.1, r20.2) (Option.some.inj h) hP hD hS b21 dX11_aWeather_98
    · replace h := (if_neg c5).symm.trans h
      refine lv_aload_n hx hb dX11_aWeather_26 rfl (lv_at hl 0 rfl) ?_
      refine lv_iconst (v := 2) hx hb dX11_aWeather_27 (by decide) ?_
      obtain ⟨r22, hr22, h⟩ := lt_elim h
      refine ca_z (w' := [WX11 cy h0 a0 r22.2]) (rn_V (As := [.int (2 : Int32)]) (rest := []) ⟨hx, hb, hml, hown, hts⟩ (kX11_fails l D cy h0 a0 r1 (2 : Int32) r22 hr22.symm H.size) (cwV 1 hts gX11_aWeather_X11_fails rfl rfl rfl (by decide +kernel) ⟨Nat.le_of_ble_eq_true rfl, Nat.le_of_ble_eq_true rfl⟩) hK hN hP hD [0] rfl rfl (ci := 11) (q0 := 0) rfl rfl rfl rfl hl.1 rfl (Nat.le_of_ble_eq_true rfl) dX11_aWeather_28 ⟨Nat.le_refl 0, Nat.le_refl 0⟩) hP hD hS hA [0] ⟨rfl, rfl, rfl, rfl⟩ (fun b23 H locs hP hD hS => ?_)
      exact hret 31 H locs ls (r22.1, r22.2) (Option.some.inj h) hP hD hS b23 dX11_aWeather_31
theorem dX11_isFarmer_0 : decode cX11_isFarmer 0 = .ok (.iload_n 1, 1) := by decide +kernel
theorem dX11_isFarmer_1 : decode cX11_isFarmer 1 = .ok (.ifCond .lt 17, 3) := by decide +kernel
theorem dX11_isFarmer_4 : decode cX11_isFarmer 4 = .ok (.iload_n 1, 1) := by decide +kernel
theorem dX11_isFarmer_5 : decode cX11_isFarmer 5 = .ok (.aload_n 0, 1) := by decide +kernel
theorem dX11_isFarmer_6 : decode cX11_isFarmer 6 = .ok (.getfield 7, 3) := by decide +kernel
theorem dX11_isFarmer_9 : decode cX11_isFarmer 9 = .ok (.iconst 0, 1) := by decide +kernel
theorem dX11_isFarmer_10 : decode cX11_isFarmer 10 = .ok (.iaload, 1) := by decide +kernel
theorem dX11_isFarmer_11 : decode cX11_isFarmer 11 = .ok (.if_icmp .ge 7, 3) := by decide +kernel
theorem dX11_isFarmer_14 : decode cX11_isFarmer 14 = .ok (.iconst 1, 1) := by decide +kernel
theorem dX11_isFarmer_15 : decode cX11_isFarmer 15 = .ok (.goto 4, 3) := by decide +kernel
theorem dX11_isFarmer_18 : decode cX11_isFarmer 18 = .ok (.iconst 0, 1) := by decide +kernel
theorem dX11_isFarmer_19 : decode cX11_isFarmer 19 = .ok (.ireturn, 1) := by decide +kernel
abbrev rmX11_isFarmer : Room := { frames := 0, cells := 0, slots := 0, locals := 0 }
set_option maxHeartbeats 4000000 in
set_option maxRecDepth 100000 in
theorem kX11_isFarmer (l : Launch) (D : va_G) (cy : Nat → ClassId) (h0 : Nat) (a0 : Nat → Nat) (s0 : Rc) (p1 : Int32) (res : Int32) (h : fX11_isFarmer p1 s0 = res) : CZ l D cy yX11_isFarmer wsX11_isFarmer rmX11_isFarmer [.ref h0, .int p1] (flat [WX11 cy h0 a0 s0]) (flat [WX11 cy h0 a0 s0]) res := by
  refine CZ.of (cc := cX11_isFarmer) (maxL := 2) (by decide) rfl (Nat.le_of_ble_eq_true rfl) ?_
  intro p e s m args below meth c A QQ ls E hr
  obtain ⟨hx, hb, hml, hown, hts, hK, hN, hP, hD, hA, hl⟩ := E
  have hret : ∀ (pc : Nat) (H : Heap) (locs : List Loc) (ls : Array Slot) (u : Int32), u = res → va_P D vwCl (flat [WX11 cy h0 a0 s0]) H → va_D A (flat [WX11 cy h0 a0 s0]) → va_S A s.heap H locs → isb u = true → decode cX11_isFarmer pc = .ok (.ireturn, 1) → W p l e rmX11_isFarmer s m args below meth c H locs 0 0 QQ (F0 m pc ls [.int u]) := by
    intro pc H locs ls u hu hP hD hS hz hd; subst hu; exact hr pc H locs ls _ rfl hP hD hS hz hd
  clear hr
  have hl : lv_has ls 2 [(0, .ref h0), (1, .int p1)] := hl
  have hinX11 : ∀ w ∈ wsX110, w ∈ wsX11_isFarmer := fun _ h => List.mem_cons_of_mem _ (List.mem_append_right _ h)
  unfold fX11_isFarmer at h
  suffices key : ∀ (H : Heap) (locs : List Loc), va_P D vwCl (flat [WX11 cy h0 a0 s0]) H → va_S A s.heap H locs → W p l e rmX11_isFarmer s m args below meth c H locs 0 0 QQ (F0 m 0 ls []) from key _ _ hP va_S.rf
  clear hP
  intro H locs hP hS
  refine lv_iload_n hx hb dX11_isFarmer_0 rfl (lv_at hl 1 rfl) ?_
  refine lv_if_lt (tgt := 18) hx hb dX11_isFarmer_1 (by decide) (fun c1 => ?_) (fun c1 => ?_)
  · replace h := (if_pos c1).symm.trans h
    refine lv_iconst (v := 0) hx hb dX11_isFarmer_18 (by decide) ?_
    exact hret 19 H locs ls (0 : Int32) h hP hD hS (show isb (0 : Int32) = true by decide) dX11_isFarmer_19
  · replace h := (if_neg c1).symm.trans h
    refine lv_iload_n hx hb dX11_isFarmer_4 rfl (lv_at hl 1 rfl) ?_
    refine lv_aload_n hx hb dX11_isFarmer_5 rfl (lv_at hl 0 rfl) ?_
    refine va_get (D := D) (ci := 11) (v := .ref (a0 0)) (C := RX11) (T := TX11) (N := 38) hx hb hts hinX11 hown hK hP 0 rfl rfl 0 (by decide) (hts (.fieldLink RX11 7 "KneeBenchModel" "at" "[I") (List.mem_of_getElem? (i := 1) rfl)) (fun _ h9 => h9) rfl dX11_isFarmer_6 ?_
    refine lv_iconst (v := 0) hx hb dX11_isFarmer_9 (by decide) ?_
    refine va_iald hx hb hK hP 1 1 rfl rfl (inb_in (by decide)) dX11_isFarmer_10 ?_
    refine lv_icmp_ge (tgt := 18) hx hb dX11_isFarmer_11 (by decide) (fun c2 => ?_) (fun c2 => ?_)
    · replace h := (if_pos c2).symm.trans h
      refine lv_iconst (v := 0) hx hb dX11_isFarmer_18 (by decide) ?_
      exact hret 19 H locs ls (0 : Int32) h hP hD hS (show isb (0 : Int32) = true by decide) dX11_isFarmer_19
    · replace h := (if_neg c2).symm.trans h
      refine lv_iconst (v := 1) hx hb dX11_isFarmer_14 (by decide) ?_
      refine lv_goto (tgt := 19) hx hb dX11_isFarmer_15 (by decide) ?_
      exact hret 19 H locs ls (1 : Int32) h hP hD hS (show isb (1 : Int32) = true by decide) dX11_isFarmer_19
theorem dX11_refuse_0 : decode cX11_refuse 0 = .ok (.aload_n 0, 1) := by decide +kernel
theorem dX11_refuse_1 : decode cX11_refuse 1 = .ok (.iload_n 1, 1) := by decide +kernel
theorem dX11_refuse_2 : decode cX11_refuse 2 = .ok (.putfield 69, 3) := by decide +kernel
theorem dX11_refuse_5 : decode cX11_refuse 5 = .ok (.iconst (-1), 1) := by decide +kernel
theorem dX11_refuse_6 : decode cX11_refuse 6 = .ok (.ireturn, 1) := by decide +kernel
abbrev rmX11_refuse : Room := { frames := 0, cells := 0, slots := 0, locals := 0 }
set_option maxHeartbeats 4000000 in
set_option maxRecDepth 100000 in
theorem kX11_refuse (l : Launch) (D : va_G) (cy : Nat → ClassId) (h0 : Nat) (a0 : Nat → Nat) (s0 : Rc) (p1 : Int32) (res : Int32 × Rc) (h : fX11_refuse p1 s0 = res) : CI l D cy yX11_refuse wsX11_refuse rmX11_refuse [.ref h0, .int p1] (flat [WX11 cy h0 a0 s0]) (flat [WX11 cy h0 a0 res.2]) res.1 := by
  refine CI.of (cc := cX11_refuse) (maxL := 2) (by decide) rfl (Nat.le_of_ble_eq_true rfl) ?_
  intro p e s m args below meth c A QQ ls E hr
  obtain ⟨hx, hb, hml, hown, hts, hK, hN, hP, hD, hA, hl⟩ := E
  have hret : ∀ (pc : Nat) (H : Heap) (locs : List Loc) (ls : Array Slot) (u : Int32 × Rc), u = res → va_P D vwCl (flat [WX11 cy h0 a0 u.2]) H → va_D A (flat [WX11 cy h0 a0 u.2]) → va_S A s.heap H locs → decode cX11_refuse pc = .ok (.ireturn, 1) → W p l e rmX11_refuse s m args below meth c H locs 0 0 QQ (F0 m pc ls [.int u.1]) := by
    intro pc H locs ls u hu hP hD hS hd; subst hu; exact hr pc H locs ls _ rfl hP hD hS hd
  clear hr
  have hl : lv_has ls 2 [(0, .ref h0), (1, .int p1)] := hl
  have hinX11 : ∀ w ∈ wsX110, w ∈ wsX11_refuse := fun _ h => List.mem_cons_of_mem _ (List.mem_append_right _ h)
  unfold fX11_refuse at h
  suffices key : ∀ (H : Heap) (locs : List Loc), va_P D vwCl (flat [WX11 cy h0 a0 s0]) H → va_S A s.heap H locs → W p l e rmX11_refuse s m args below meth c H locs 0 0 QQ (F0 m 0 ls []) from key _ _ hP va_S.rf
  clear hP
  intro H locs hP hS
  refine lv_aload_n hx hb dX11_refuse_0 rfl (lv_at hl 0 rfl) ?_
  refine lv_iload_n hx hb dX11_refuse_1 rfl (lv_at hl 1 rfl) ?_
  obtain ⟨s0_1, es, h⟩ := lt_elim h
  refine va_put (D := D) (ci := 11) (v := .int p1) (ty := .int) (C := RX11) (T := TX11) (N := 38) hx hb hts hinX11 tyX11 tyX11_ok nmX11 hown hK hP hD hS 0 rfl rfl 2 (by decide) (hts (.fieldLink RX11 69 "KneeBenchModel" "status" "I") (List.mem_of_getElem? (i := 1) rfl)) (fun _ h9 => h9) rfl (by decide +kernel) rfl rfl (Nat.le_of_ble_eq_true rfl) dX11_refuse_2 (fun H locs hP hD hS => ?_)
  have hP : va_P D vwCl (flat [WX11 cy h0 a0 s0_1]) H := by rw [es]; exact hP
  have hD : va_D A (flat [WX11 cy h0 a0 s0_1]) := by rw [es]; exact hD
  clear es
  refine lv_iconst (v := -1) hx hb dX11_refuse_5 (by decide) ?_
  exact hret 6 H locs ls ((-1 : Int32), s0_1) h hP hD hS dX11_refuse_6
theorem gd_X11_lagOf : wsX11_lagOf.all goodWord = true := by decide +kernel
set_option maxRecDepth 20000 in
theorem ggX11_lagOf_X11_farmerRow : GoodIn wsX11_lagOf wsX11_farmerRow := goodIn_by gd_X11_lagOf (List.forall_mem_cons.mpr ⟨List.mem_cons_of_mem _ (List.mem_append_left _ (List.mem_of_getElem? (i := 4) rfl)), nowords_in⟩)
set_option maxRecDepth 20000 in
theorem gX11_lagOf_X11_farmerRow : GoodIn wsX11_lagOf (va_wsS RX11 177 yX11_farmerRow wsX11_farmerRow) := goodIn_app (goodIn_by gd_X11_lagOf (List.forall_mem_cons.mpr ⟨List.mem_cons_of_mem _ (List.mem_append_left _ (List.mem_of_getElem? (i := 1) rfl)), List.forall_mem_cons.mpr ⟨List.mem_cons_of_mem _ (List.mem_append_left _ (List.mem_of_getElem? (i := 2) rfl)), List.forall_mem_cons.mpr ⟨List.mem_cons_of_mem _ (List.mem_append_left _ (List.mem_of_getElem? (i := 3) rfl)), nowords_in⟩⟩⟩)) ggX11_lagOf_X11_farmerRow
theorem dX11_lagOf_0 : decode cX11_lagOf 0 = .ok (.aload_n 0, 1) := by decide +kernel
theorem dX11_lagOf_1 : decode cX11_lagOf 1 = .ok (.getfield 7, 3) := by decide +kernel
theorem dX11_lagOf_4 : decode cX11_lagOf 4 = .ok (.iconst 0, 1) := by decide +kernel
theorem dX11_lagOf_5 : decode cX11_lagOf 5 = .ok (.iload_n 1, 1) := by decide +kernel
theorem dX11_lagOf_6 : decode cX11_lagOf 6 = .ok (.invokestatic 177, 3) := by decide +kernel
theorem dX11_lagOf_9 : decode cX11_lagOf 9 = .ok (.iaload, 1) := by decide +kernel
theorem dX11_lagOf_10 : decode cX11_lagOf 10 = .ok (.ireturn, 1) := by decide +kernel
abbrev rmX11_lagOf : Room := { frames := 1, cells := 0, slots := 0, locals := 21 }
set_option maxHeartbeats 4000000 in
set_option maxRecDepth 100000 in
theorem kX11_lagOf (l : Launch) (D : va_G) (cy : Nat → ClassId) (h0 : Nat) (a0 : Nat → Nat) (s0 : Rc) (p1 : Int32) (res : Int32) (h : fX11_lagOf p1 s0 = some res) : CI l D cy yX11_lagOf wsX11_lagOf rmX11_lagOf [.ref h0, .int p1] (flat [WX11 cy h0 a0 s0]) (flat [WX11 cy h0 a0 s0]) res := by
  refine CI.of (cc := cX11_lagOf) (maxL := 2) (by decide) rfl (Nat.le_of_ble_eq_true rfl) ?_
  intro p e s m args below meth c A QQ ls E hr
  obtain ⟨hx, hb, hml, hown, hts, hK, hN, hP, hD, hA, hl⟩ := E
  have hret : ∀ (pc : Nat) (H : Heap) (locs : List Loc) (ls : Array Slot) (u : Int32), u = res → va_P D vwCl (flat [WX11 cy h0 a0 s0]) H → va_D A (flat [WX11 cy h0 a0 s0]) → va_S A s.heap H locs → decode cX11_lagOf pc = .ok (.ireturn, 1) → W p l e rmX11_lagOf s m args below meth c H locs 0 0 QQ (F0 m pc ls [.int u]) := by
    intro pc H locs ls u hu hP hD hS hd; subst hu; exact hr pc H locs ls _ rfl hP hD hS hd
  clear hr
  have hl : lv_has ls 2 [(0, .ref h0), (1, .int p1)] := hl
  have hinX11 : ∀ w ∈ wsX110, w ∈ wsX11_lagOf := fun _ h => List.mem_cons_of_mem _ (List.mem_append_right _ h)
  unfold fX11_lagOf at h
  suffices key : ∀ (H : Heap) (locs : List Loc), va_P D vwCl (flat [WX11 cy h0 a0 s0]) H → va_S A s.heap H locs → W p l e rmX11_lagOf s m args below meth c H locs 0 0 QQ (F0 m 0 ls []) from key _ _ hP va_S.rf
  clear hP
  intro H locs hP hS
  refine lv_aload_n hx hb dX11_lagOf_0 rfl (lv_at hl 0 rfl) ?_
  refine va_get (D := D) (ci := 11) (v := .ref (a0 0)) (C := RX11) (T := TX11) (N := 38) hx hb hts hinX11 hown hK hP 0 rfl rfl 0 (by decide) (hts (.fieldLink RX11 7 "KneeBenchModel" "at" "[I") (List.mem_of_getElem? (i := 1) rfl)) (fun _ h9 => h9) rfl dX11_lagOf_1 ?_
  refine lv_iconst (v := 0) hx hb dX11_lagOf_4 (by decide) ?_
  refine lv_iload_n hx hb dX11_lagOf_5 rfl (lv_at hl 1 rfl) ?_
  refine ca_i (w' := [WX11 cy h0 a0 s0]) (rn_S (As := [.int (0 : Int32), .int p1]) (rest := [.ref (a0 0)]) ⟨hx, hb, hml, hown, hts⟩ (kX11_farmerRow l D cy (0 : Int32) p1 _ rfl H.size) (va_cwS 2 hts gX11_lagOf_X11_farmerRow rfl rfl rfl (by decide +kernel) ⟨Nat.le_of_ble_eq_true rfl, Nat.le_of_ble_eq_true rfl⟩) hK hN hP hD [] rfl rfl rfl hl.1 rfl (Nat.le_of_ble_eq_true rfl) dX11_lagOf_6 ⟨Nat.le_refl 0, Nat.le_refl 0⟩) hP hD hS hA [] ⟨rfl, rfl, rfl, rfl⟩ (fun H locs hP hD hS => ?_)
  obtain ⟨g1, h⟩ := gd_elim h
  refine va_iald hx hb hK hP 1 1 rfl rfl (inb_in g1) dX11_lagOf_9 ?_
  exact hret 10 H locs ls (ga s0 0 (fX11_farmerRow (0 : Int32) p1).toNatClampNeg) (Option.some.inj h) hP hD hS dX11_lagOf_10
theorem dX11_isDay_0 : decode cX11_isDay 0 = .ok (.iload_n 1, 1) := by decide +kernel
theorem dX11_isDay_1 : decode cX11_isDay 1 = .ok (.ifCond .lt 17, 3) := by decide +kernel
theorem dX11_isDay_4 : decode cX11_isDay 4 = .ok (.iload_n 1, 1) := by decide +kernel
theorem dX11_isDay_5 : decode cX11_isDay 5 = .ok (.aload_n 0, 1) := by decide +kernel
theorem dX11_isDay_6 : decode cX11_isDay 6 = .ok (.getfield 7, 3) := by decide +kernel
theorem dX11_isDay_9 : decode cX11_isDay 9 = .ok (.iconst 1, 1) := by decide +kernel
theorem dX11_isDay_10 : decode cX11_isDay 10 = .ok (.iaload, 1) := by decide +kernel
theorem dX11_isDay_11 : decode cX11_isDay 11 = .ok (.if_icmp .ge 7, 3) := by decide +kernel
theorem dX11_isDay_14 : decode cX11_isDay 14 = .ok (.iconst 1, 1) := by decide +kernel
theorem dX11_isDay_15 : decode cX11_isDay 15 = .ok (.goto 4, 3) := by decide +kernel
theorem dX11_isDay_18 : decode cX11_isDay 18 = .ok (.iconst 0, 1) := by decide +kernel
theorem dX11_isDay_19 : decode cX11_isDay 19 = .ok (.ireturn, 1) := by decide +kernel
abbrev rmX11_isDay : Room := { frames := 0, cells := 0, slots := 0, locals := 0 }
set_option maxHeartbeats 4000000 in
set_option maxRecDepth 100000 in
theorem kX11_isDay (l : Launch) (D : va_G) (cy : Nat → ClassId) (h0 : Nat) (a0 : Nat → Nat) (s0 : Rc) (p1 : Int32) (res : Int32) (h : fX11_isDay p1 s0 = res) : CZ l D cy yX11_isDay wsX11_isDay rmX11_isDay [.ref h0, .int p1] (flat [WX11 cy h0 a0 s0]) (flat [WX11 cy h0 a0 s0]) res := by
  refine CZ.of (cc := cX11_isDay) (maxL := 2) (by decide) rfl (Nat.le_of_ble_eq_true rfl) ?_
  intro p e s m args below meth c A QQ ls E hr
  obtain ⟨hx, hb, hml, hown, hts, hK, hN, hP, hD, hA, hl⟩ := E
  have hret : ∀ (pc : Nat) (H : Heap) (locs : List Loc) (ls : Array Slot) (u : Int32), u = res → va_P D vwCl (flat [WX11 cy h0 a0 s0]) H → va_D A (flat [WX11 cy h0 a0 s0]) → va_S A s.heap H locs → isb u = true → decode cX11_isDay pc = .ok (.ireturn, 1) → W p l e rmX11_isDay s m args below meth c H locs 0 0 QQ (F0 m pc ls [.int u]) := by
    intro pc H locs ls u hu hP hD hS hz hd; subst hu; exact hr pc H locs ls _ rfl hP hD hS hz hd
  clear hr
  have hl : lv_has ls 2 [(0, .ref h0), (1, .int p1)] := hl
  have hinX11 : ∀ w ∈ wsX110, w ∈ wsX11_isDay := fun _ h => List.mem_cons_of_mem _ (List.mem_append_right _ h)
  unfold fX11_isDay at h
  suffices key : ∀ (H : Heap) (locs : List Loc), va_P D vwCl (flat [WX11 cy h0 a0 s0]) H → va_S A s.heap H locs → W p l e rmX11_isDay s m args below meth c H locs 0 0 QQ (F0 m 0 ls []) from key _ _ hP va_S.rf
  clear hP
  intro H locs hP hS
  refine lv_iload_n hx hb dX11_isDay_0 rfl (lv_at hl 1 rfl) ?_
  refine lv_if_lt (tgt := 18) hx hb dX11_isDay_1 (by decide) (fun c1 => ?_) (fun c1 => ?_)
  · replace h := (if_pos c1).symm.trans h
    refine lv_iconst (v := 0) hx hb dX11_isDay_18 (by decide) ?_
    exact hret 19 H locs ls (0 : Int32) h hP hD hS (show isb (0 : Int32) = true by decide) dX11_isDay_19
  · replace h := (if_neg c1).symm.trans h
    refine lv_iload_n hx hb dX11_isDay_4 rfl (lv_at hl 1 rfl) ?_
    refine lv_aload_n hx hb dX11_isDay_5 rfl (lv_at hl 0 rfl) ?_
    refine va_get (D := D) (ci := 11) (v := .ref (a0 0)) (C := RX11) (T := TX11) (N := 38) hx hb hts hinX11 hown hK hP 0 rfl rfl 0 (by decide) (hts (.fieldLink RX11 7 "KneeBenchModel" "at" "[I") (List.mem_of_getElem? (i := 1) rfl)) (fun _ h9 => h9) rfl dX11_isDay_6 ?_
    refine lv_iconst (v := 1) hx hb dX11_isDay_9 (by decide) ?_
    refine va_iald hx hb hK hP 1 1 rfl rfl (inb_in (by decide)) dX11_isDay_10 ?_
    refine lv_icmp_ge (tgt := 18) hx hb dX11_isDay_11 (by decide) (fun c2 => ?_) (fun c2 => ?_)
    · replace h := (if_pos c2).symm.trans h
      refine lv_iconst (v := 0) hx hb dX11_isDay_18 (by decide) ?_
      exact hret 19 H locs ls (0 : Int32) h hP hD hS (show isb (0 : Int32) = true by decide) dX11_isDay_19
    · replace h := (if_neg c2).symm.trans h
      refine lv_iconst (v := 1) hx hb dX11_isDay_14 (by decide) ?_
      refine lv_goto (tgt := 19) hx hb dX11_isDay_15 (by decide) ?_
      exact hret 19 H locs ls (1 : Int32) h hP hD hS (show isb (1 : Int32) = true by decide) dX11_isDay_19
theorem gd_X11_isWell : wsX11_isWell.all goodWord = true := by decide +kernel
set_option maxRecDepth 20000 in
theorem ggX11_isWell_X11_farmerRow : GoodIn wsX11_isWell wsX11_farmerRow := goodIn_by gd_X11_isWell (List.forall_mem_cons.mpr ⟨List.mem_cons_of_mem _ (List.mem_append_left _ (List.mem_of_getElem? (i := 4) rfl)), nowords_in⟩)
set_option maxRecDepth 20000 in
theorem gX11_isWell_X11_farmerRow : GoodIn wsX11_isWell (va_wsS RX11 177 yX11_farmerRow wsX11_farmerRow) := goodIn_app (goodIn_by gd_X11_isWell (List.forall_mem_cons.mpr ⟨List.mem_cons_of_mem _ (List.mem_append_left _ (List.mem_of_getElem? (i := 1) rfl)), List.forall_mem_cons.mpr ⟨List.mem_cons_of_mem _ (List.mem_append_left _ (List.mem_of_getElem? (i := 2) rfl)), List.forall_mem_cons.mpr ⟨List.mem_cons_of_mem _ (List.mem_append_left _ (List.mem_of_getElem? (i := 3) rfl)), nowords_in⟩⟩⟩)) ggX11_isWell_X11_farmerRow
theorem dX11_isWell_0 : decode cX11_isWell 0 = .ok (.aload_n 0, 1) := by decide +kernel
theorem dX11_isWell_1 : decode cX11_isWell 1 = .ok (.getfield 7, 3) := by decide +kernel
theorem dX11_isWell_4 : decode cX11_isWell 4 = .ok (.iconst 0, 1) := by decide +kernel
theorem dX11_isWell_5 : decode cX11_isWell 5 = .ok (.iload_n 1, 1) := by decide +kernel
theorem dX11_isWell_6 : decode cX11_isWell 6 = .ok (.invokestatic 177, 3) := by decide +kernel
theorem dX11_isWell_9 : decode cX11_isWell 9 = .ok (.iconst 4, 1) := by decide +kernel
theorem dX11_isWell_10 : decode cX11_isWell 10 = .ok (.iadd, 1) := by decide +kernel
theorem dX11_isWell_11 : decode cX11_isWell 11 = .ok (.iaload, 1) := by decide +kernel
theorem dX11_isWell_12 : decode cX11_isWell 12 = .ok (.iload_n 2, 1) := by decide +kernel
theorem dX11_isWell_13 : decode cX11_isWell 13 = .ok (.if_icmp .gt 7, 3) := by decide +kernel
theorem dX11_isWell_16 : decode cX11_isWell 16 = .ok (.iconst 1, 1) := by decide +kernel
theorem dX11_isWell_17 : decode cX11_isWell 17 = .ok (.goto 4, 3) := by decide +kernel
theorem dX11_isWell_20 : decode cX11_isWell 20 = .ok (.iconst 0, 1) := by decide +kernel
theorem dX11_isWell_21 : decode cX11_isWell 21 = .ok (.ireturn, 1) := by decide +kernel
abbrev rmX11_isWell : Room := { frames := 1, cells := 0, slots := 0, locals := 21 }
set_option maxHeartbeats 4000000 in
set_option maxRecDepth 100000 in
theorem kX11_isWell (l : Launch) (D : va_G) (cy : Nat → ClassId) (h0 : Nat) (a0 : Nat → Nat) (s0 : Rc) (p1 : Int32) (p2 : Int32) (res : Int32) (h : fX11_isWell p1 p2 s0 = some res) : CZ l D cy yX11_isWell wsX11_isWell rmX11_isWell [.ref h0, .int p1, .int p2] (flat [WX11 cy h0 a0 s0]) (flat [WX11 cy h0 a0 s0]) res := by
  refine CZ.of (cc := cX11_isWell) (maxL := 3) (by decide) rfl (Nat.le_of_ble_eq_true rfl) ?_
  intro p e s m args below meth c A QQ ls E hr
  obtain ⟨hx, hb, hml, hown, hts, hK, hN, hP, hD, hA, hl⟩ := E
  have hret : ∀ (pc : Nat) (H : Heap) (locs : List Loc) (ls : Array Slot) (u : Int32), u = res → va_P D vwCl (flat [WX11 cy h0 a0 s0]) H → va_D A (flat [WX11 cy h0 a0 s0]) → va_S A s.heap H locs → isb u = true → decode cX11_isWell pc = .ok (.ireturn, 1) → W p l e rmX11_isWell s m args below meth c H locs 0 0 QQ (F0 m pc ls [.int u]) := by
    intro pc H locs ls u hu hP hD hS hz hd; subst hu; exact hr pc H locs ls _ rfl hP hD hS hz hd
  clear hr
  have hl : lv_has ls 3 [(0, .ref h0), (1, .int p1), (2, .int p2)] := hl
  have hinX11 : ∀ w ∈ wsX110, w ∈ wsX11_isWell := fun _ h => List.mem_cons_of_mem _ (List.mem_append_right _ h)
  unfold fX11_isWell at h
  suffices key : ∀ (H : Heap) (locs : List Loc), va_P D vwCl (flat [WX11 cy h0 a0 s0]) H → va_S A s.heap H locs → W p l e rmX11_isWell s m args below meth c H locs 0 0 QQ (F0 m 0 ls []) from key _ _ hP va_S.rf
  clear hP
  intro H locs hP hS
  refine lv_aload_n hx hb dX11_isWell_0 rfl (lv_at hl 0 rfl) ?_
  refine va_get (D := D) (ci := 11) (v := .ref (a0 0)) (C := RX11) (T := TX11) (N := 38) hx hb hts hinX11 hown hK hP 0 rfl rfl 0 (by decide) (hts (.fieldLink RX11 7 "KneeBenchModel" "at" "[I") (List.mem_of_getElem? (i := 1) rfl)) (fun _ h9 => h9) rfl dX11_isWell_1 ?_
  refine lv_iconst (v := 0) hx hb dX11_isWell_4 (by decide) ?_
  refine lv_iload_n hx hb dX11_isWell_5 rfl (lv_at hl 1 rfl) ?_
  refine ca_i (w' := [WX11 cy h0 a0 s0]) (rn_S (As := [.int (0 : Int32), .int p1]) (rest := [.ref (a0 0)]) ⟨hx, hb, hml, hown, hts⟩ (kX11_farmerRow l D cy (0 : Int32) p1 _ rfl H.size) (va_cwS 2 hts gX11_isWell_X11_farmerRow rfl rfl rfl (by decide +kernel) ⟨Nat.le_of_ble_eq_true rfl, Nat.le_of_ble_eq_true rfl⟩) hK hN hP hD [] rfl rfl rfl hl.1 rfl (Nat.le_of_ble_eq_true rfl) dX11_isWell_6 ⟨Nat.le_refl 0, Nat.le_refl 0⟩) hP hD hS hA [] ⟨rfl, rfl, rfl, rfl⟩ (fun H locs hP hD hS => ?_)
  refine lv_iconst (v := 4) hx hb dX11_isWell_9 (by decide) ?_
  refine lv_iadd hx hb dX11_isWell_10 ?_
  obtain ⟨g1, h⟩ := gd_elim h
  refine va_iald hx hb hK hP 1 1 rfl rfl (inb_in g1) dX11_isWell_11 ?_
  refine lv_iload_n hx hb dX11_isWell_12 rfl (lv_at hl 2 rfl) ?_
  refine lv_icmp_gt (tgt := 20) hx hb dX11_isWell_13 (by decide) (fun c2 => ?_) (fun c2 => ?_)
  · replace h := (if_pos c2).symm.trans h
    refine lv_iconst (v := 0) hx hb dX11_isWell_20 (by decide) ?_
    exact hret 21 H locs ls (0 : Int32) (Option.some.inj h) hP hD hS (show isb (0 : Int32) = true by decide) dX11_isWell_21
  · replace h := (if_neg c2).symm.trans h
    refine lv_iconst (v := 1) hx hb dX11_isWell_16 (by decide) ?_
    refine lv_goto (tgt := 21) hx hb dX11_isWell_17 (by decide) ?_
    exact hret 21 H locs ls (1 : Int32) (Option.some.inj h) hP hD hS (show isb (1 : Int32) = true by decide) dX11_isWell_21
theorem dX11_twingeRow_0 : decode cX11_twingeRow 0 = .ok (.sipush 182, 3) := by decide +kernel
theorem dX11_twingeRow_3 : decode cX11_twingeRow 3 = .ok (.bipush 60, 2) := by decide +kernel
theorem dX11_twingeRow_5 : decode cX11_twingeRow 5 = .ok (.iload_n 0, 1) := by decide +kernel
theorem dX11_twingeRow_6 : decode cX11_twingeRow 6 = .ok (.imul, 1) := by decide +kernel
theorem dX11_twingeRow_7 : decode cX11_twingeRow 7 = .ok (.iadd, 1) := by decide +kernel
theorem dX11_twingeRow_8 : decode cX11_twingeRow 8 = .ok (.iload_n 1, 1) := by decide +kernel
theorem dX11_twingeRow_9 : decode cX11_twingeRow 9 = .ok (.iadd, 1) := by decide +kernel
theorem dX11_twingeRow_10 : decode cX11_twingeRow 10 = .ok (.ireturn, 1) := by decide +kernel
abbrev rmX11_twingeRow : Room := { frames := 0, cells := 0, slots := 0, locals := 0 }
set_option maxHeartbeats 4000000 in
set_option maxRecDepth 100000 in
theorem kX11_twingeRow (l : Launch) (D : va_G) (cy : Nat → ClassId) (p1 : Int32) (p2 : Int32) (res : Int32) (h : fX11_twingeRow p1 p2 = res) : CI l D cy yX11_twingeRow wsX11_twingeRow rmX11_twingeRow [.int p1, .int p2] (flat []) (flat []) res := by
  refine CI.of (cc := cX11_twingeRow) (maxL := 2) (by decide) rfl (Nat.le_of_ble_eq_true rfl) ?_
  intro p e s m args below meth c A QQ ls E hr
  obtain ⟨hx, hb, hml, hown, hts, hK, hN, hP, hD, hA, hl⟩ := E
  have hret : ∀ (pc : Nat) (H : Heap) (locs : List Loc) (ls : Array Slot) (u : Int32), u = res → va_P D vwCl (flat []) H → va_D A (flat []) → va_S A s.heap H locs → decode cX11_twingeRow pc = .ok (.ireturn, 1) → W p l e rmX11_twingeRow s m args below meth c H locs 0 0 QQ (F0 m pc ls [.int u]) := by
    intro pc H locs ls u hu hP hD hS hd; subst hu; exact hr pc H locs ls _ rfl hP hD hS hd
  clear hr
  have hl : lv_has ls 2 [(0, .int p1), (1, .int p2)] := hl
  unfold fX11_twingeRow at h
  suffices key : ∀ (H : Heap) (locs : List Loc), va_P D vwCl (flat []) H → va_S A s.heap H locs → W p l e rmX11_twingeRow s m args below meth c H locs 0 0 QQ (F0 m 0 ls []) from key _ _ hP va_S.rf
  clear hP
  intro H locs hP hS
  refine lv_sipush (v := 182) hx hb dX11_twingeRow_0 (by decide) ?_
  refine lv_bipush (v := 60) hx hb dX11_twingeRow_3 (by decide) ?_
  refine lv_iload_n hx hb dX11_twingeRow_5 rfl (lv_at hl 0 rfl) ?_
  refine lv_imul hx hb dX11_twingeRow_6 ?_
  refine lv_iadd hx hb dX11_twingeRow_7 ?_
  refine lv_iload_n hx hb dX11_twingeRow_8 rfl (lv_at hl 1 rfl) ?_
  refine lv_iadd hx hb dX11_twingeRow_9 ?_
  exact hret 10 H locs ls (((182 : Int32) + ((60 : Int32) * p1)) + p2) h hP hD hS dX11_twingeRow_10
