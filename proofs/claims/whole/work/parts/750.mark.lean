/-! ===== a method that answers an object ===== -/
abbrev CR (l : Launch) (D : va_G) (cy : Nat → ClassId) (y : MethodName) (ws : List Cond) (rm : Room) (av : List Value) (w0 w1 : va_W) (r : Nat) : Prop :=
  ∀ sz, Met l y ws rm (va_Pc av (pr_ D cy w0 sz)) (va_Qr (fun (_ : Unit) => True) (fun _ a t => a = r ∧ po_ D cy (va_A w0 sz) w1 () t) (va_A w0 sz)) 0 0 (va_A w0 sz)
theorem CR.of {l : Launch} {D : va_G} {cy : Nat → ClassId} {y : MethodName} {ws ws' : List Cond} {rm : Room} {av : List Value} {w0 w1 : va_W} {r : Nat} {cc : ByteArray} {maxL : Nat} {C : String}
    (hy : plainName y.cls = true) (hw : ws = Cond.code y cc maxL (some (.object C)) :: ws') (hL : (lg_sl av).length ≤ maxL)
    (body : ∀ (p : Program) (e : Env) (s : State) (m : MethodId) (args : Array Value) (below : List Frame) (meth : Method) (c : Code) (A : Nat → Prop) (QQ : State → Prop) (ls : Array Slot), ent p s m args c cc maxL ws y.cls D cy A w0 av ls →
      (∀ (pc : Nat) (H : Heap) (locs : List Loc) (ls : Array Slot) (x : Nat), x = r → va_P D vwCl w1 H → va_D A w1 → va_S A s.heap H locs → decode cc pc = .ok (.areturn, 1) → W p l e rm s m args below meth c H locs 0 0 QQ (F0 m pc ls [.ref x])) →
      W p l e rm s m args below meth c s.heap [] 0 0 QQ (F0 m 0 ls [])) : CR l D cy y ws rm av w0 w1 r := by
  intro sz
  refine Met.ofW (cc := cc) (maxL := maxL) (ret := some (.object C)) hy hw ?_
  intro p e s m args below meth c s₁ B hml hv
  obtain ⟨rfl, hsz, hP, hK, hD0, hN⟩ := hv
  subst hsz
  have hl := lv_entry av (n := maxL) hL
  rw [lg_entry_eq]
  generalize (lg_sl av ++ List.replicate (maxL - (lg_sl av).length) Slot.unset).toArray = ls at hl ⊢
  refine body p e s m _ below meth c (va_A w0 s.heap.size) _ ls ⟨B.exec, B.bytes, hml, findClass_of_methodNamed B.named, atoms_spec (ws := ws) B.pre, hK, hN, hP, hD0.self, fun q h => Or.inr h, hl⟩ ?_
  intro pc H locs ls x hx hP hD hS hd
  have hlocks := B.notSynchronized
  exact W.aret (v := .ref x) B.exec B.bytes B.returns (Or.inl ⟨C, rfl⟩) (Or.inr ⟨x, rfl⟩) (fun t ht hW => ⟨⟨(), x, rfl, trivial, hx, by rw [ht]; exact hP, va_K.moved hW.alike hK, hD⟩, hS.F ht⟩) hS.2.2 hd
theorem ca_r {p : Program} {l : Launch} {e : Env} {R : Room} {s : State} {m : MethodId} {args : Array Value} {below : List Frame} {meth : Method} {c : Code} {H : Heap} {locs : List Loc} {cells slots : Nat} {Q : State → Prop} {rest st0 : List Value} {pc : Nat} {ls : Array Slot} {D : va_G} {cy : Nat → ClassId} {A : Nat → Prop} {H0 : Heap} {w wc w1 w' : List va_W}
    {r : Nat} {a : Array Value} (hr : va_Run p l e R s m args below meth c H locs cells slots 0 0 (F0 m pc ls st0) rest (va_Qr (fun (_ : Unit) => True) (fun _ x t => x = r ∧ po_ D cy (va_A (flat wc) H.size) (flat w1) () t) (va_A (flat wc) H.size) a) (va_A (flat wc) H.size))
    (hP : va_P D vwCl (flat w) H) (hD : va_D A (flat w)) (hS : va_S A H0 H locs) (hA : ∀ q, H0.size ≤ q → A q) (isC : List Nat) (pl : plc w wc w1 w' isC)
    (kk : ∀ (H1 : Heap) (locs1 : List Loc), va_P D vwCl (flat w') H1 → va_D A (flat w') → va_S A H0 H1 locs1 → W p l e R s m args below meth c H1 locs1 cells slots Q (F0 m (pc + 3) ls (.ref r :: rest))) : W p l e R s m args below meth c H locs cells slots Q (F0 m pc ls st0) := by
  have hF := ca_free hD hS hA isC pl.1
  refine va_callr hr hS (fun q _ h => hF q h) hF (fun u x t H1 locs1 ht hvm hw hB hz1 hk1 hS1 => ?_)
  obtain ⟨rfl, hB⟩ := hB
  obtain ⟨hP2, hD2⟩ := ca_post hP hD pl ht hB hk1
  exact kk H1 locs1 hP2 hD2 hS1
theorem dX10_markAt_0 : decode cX10_markAt 0 = .ok (.iload_n 1, 1) := by decide +kernel
theorem dX10_markAt_1 : decode cX10_markAt 1 = .ok (.ifCond .ne 8, 3) := by decide +kernel
theorem dX10_markAt_4 : decode cX10_markAt 4 = .ok (.aload_n 0, 1) := by decide +kernel
theorem dX10_markAt_5 : decode cX10_markAt 5 = .ok (.getfield 32, 3) := by decide +kernel
theorem dX10_markAt_8 : decode cX10_markAt 8 = .ok (.areturn, 1) := by decide +kernel
theorem dX10_markAt_9 : decode cX10_markAt 9 = .ok (.iload_n 1, 1) := by decide +kernel
theorem dX10_markAt_10 : decode cX10_markAt 10 = .ok (.iconst 1, 1) := by decide +kernel
theorem dX10_markAt_11 : decode cX10_markAt 11 = .ok (.if_icmp .ne 10, 3) := by decide +kernel
theorem dX10_markAt_14 : decode cX10_markAt 14 = .ok (.aload_n 0, 1) := by decide +kernel
theorem dX10_markAt_15 : decode cX10_markAt 15 = .ok (.getfield 36, 3) := by decide +kernel
theorem dX10_markAt_18 : decode cX10_markAt 18 = .ok (.goto 7, 3) := by decide +kernel
theorem dX10_markAt_21 : decode cX10_markAt 21 = .ok (.aload_n 0, 1) := by decide +kernel
theorem dX10_markAt_22 : decode cX10_markAt 22 = .ok (.getfield 39, 3) := by decide +kernel
theorem dX10_markAt_25 : decode cX10_markAt 25 = .ok (.areturn, 1) := by decide +kernel
abbrev rmX10_markAt : Room := { frames := 0, cells := 0, slots := 0, locals := 0 }
set_option maxHeartbeats 4000000 in
set_option maxRecDepth 100000 in
theorem kX10_markAt (l : Launch) (D : va_G) (cy : Nat → ClassId) (h0 : Nat) (a0 : Nat → Nat) (s0 : Rc) (p1 : Int32) (r : Nat) (h : (if p1 = 0 then a0 4 else if p1 = 1 then a0 5 else a0 6) = r) : CR l D cy yX10_markAt wsX10_markAt rmX10_markAt [.ref h0, .int p1] (flat [WX10 cy h0 a0 s0]) (flat [WX10 cy h0 a0 s0]) r := by
  refine CR.of (cc := cX10_markAt) (maxL := 2) (by decide) rfl (Nat.le_of_ble_eq_true rfl) ?_
  intro p e s m args below meth c A QQ ls E hret
  obtain ⟨hx, hb, hml, hown, hts, hK, hN, hP, hD, hA, hl⟩ := E
  have hl : lv_has ls 2 [(0, .ref h0), (1, .int p1)] := hl
  have hinX10 : ∀ w ∈ wsX100, w ∈ wsX10_markAt := fun _ h => List.mem_cons_of_mem _ (List.mem_append_right _ h)
  have hS : va_S A s.heap s.heap [] := va_S.rf
  refine lv_iload_n hx hb dX10_markAt_0 rfl (lv_at hl 1 rfl) ?_
  refine lv_if_ne (tgt := 9) hx hb dX10_markAt_1 (by decide) (fun c1 => ?_) (fun c1 => ?_)
  · replace h := (if_neg c1).symm.trans h
    refine lv_iload_n hx hb dX10_markAt_9 rfl (lv_at hl 1 rfl) ?_
    refine lv_iconst (v := 1) hx hb dX10_markAt_10 (by decide) ?_
    refine lv_icmp_ne (tgt := 21) hx hb dX10_markAt_11 (by decide) (fun c2 => ?_) (fun c2 => ?_)
    · replace h := (if_neg c2).symm.trans h
      refine lv_aload_n hx hb dX10_markAt_21 rfl (lv_at hl 0 rfl) ?_
      refine va_get (D := D) (ci := 10) (v := .ref (a0 6)) (C := RX10) (T := TX10) (N := 19) hx hb hts hinX10 hown hK hP 0 rfl rfl 6 (by decide) (hts (.fieldLink RX10 39 "KneeBench" "thirdMark" "LKneeBench$Mark;") (List.mem_of_getElem? (i := 3) rfl)) (fun _ h9 => h9) rfl dX10_markAt_22 ?_
      exact hret 25 s.heap [] ls _ h hP hD hS dX10_markAt_25
    · replace h := (if_pos c2).symm.trans h
      refine lv_aload_n hx hb dX10_markAt_14 rfl (lv_at hl 0 rfl) ?_
      refine va_get (D := D) (ci := 10) (v := .ref (a0 5)) (C := RX10) (T := TX10) (N := 19) hx hb hts hinX10 hown hK hP 0 rfl rfl 5 (by decide) (hts (.fieldLink RX10 36 "KneeBench" "secondMark" "LKneeBench$Mark;") (List.mem_of_getElem? (i := 2) rfl)) (fun _ h9 => h9) rfl dX10_markAt_15 ?_
      refine lv_goto (tgt := 25) hx hb dX10_markAt_18 (by decide) ?_
      exact hret 25 s.heap [] ls _ h hP hD hS dX10_markAt_25
  · replace h := (if_pos c1).symm.trans h
    refine lv_aload_n hx hb dX10_markAt_4 rfl (lv_at hl 0 rfl) ?_
    refine va_get (D := D) (ci := 10) (v := .ref (a0 4)) (C := RX10) (T := TX10) (N := 19) hx hb hts hinX10 hown hK hP 0 rfl rfl 4 (by decide) (hts (.fieldLink RX10 32 "KneeBench" "firstMark" "LKneeBench$Mark;") (List.mem_of_getElem? (i := 1) rfl)) (fun _ h9 => h9) rfl dX10_markAt_5 ?_
    exact hret 8 s.heap [] ls _ h hP hD hS dX10_markAt_8
set_option maxRecDepth 20000 in
theorem ggX10_mark_X10_refuse : GoodIn wsX10_mark wsX10_refuse := goodIn_r _ [8, 9, 65, 66, 67, 68, 69, 70, 71, 72, 73, 74, 75, 76, 77, 78, 79, 80, 81, 82, 83] (by decide +kernel) (by decide +kernel)
set_option maxRecDepth 20000 in
theorem gX10_mark_X10_refuse : GoodIn wsX10_mark (wsV RX10 139 RX10 yX10_refuse wsX10_refuse) := goodIn_app (goodIn_of _ (by decide +kernel)) ggX10_mark_X10_refuse
set_option maxRecDepth 20000 in
theorem ggX10_mark_X10_markAt : GoodIn wsX10_mark wsX10_markAt := goodIn_r _ [13, 14, 15, 16, 65, 66, 67, 68, 69, 70, 71, 72, 73, 74, 75, 76, 77, 78, 79, 80, 81, 82, 83] (by decide +kernel) (by decide +kernel)
set_option maxRecDepth 20000 in
theorem gX10_mark_X10_markAt : GoodIn wsX10_mark (wsV RX10 418 RX10 yX10_markAt wsX10_markAt) := goodIn_app (goodIn_of _ (by decide +kernel)) ggX10_mark_X10_markAt
set_option maxRecDepth 20000 in
theorem ggX10_mark_X4_keep : GoodIn wsX10_mark wsX4_keep := goodIn_r _ [21, 22, 23, 24, 25, 26, 27, 28, 29, 30, 31, 32, 33, 34, 35, 36, 37, 38, 39, 40, 41, 42, 43, 44, 45, 46, 47, 48, 49, 50, 51, 52, 53, 54, 55, 56, 57, 58, 59, 60, 84, 85, 86, 87, 88, 89, 90, 91, 92, 93, 94, 95, 96, 97, 98, 99, 100, 101, 102, 103, 104, 105, 106, 107] (by decide +kernel) (by decide +kernel)
set_option maxRecDepth 20000 in
theorem gX10_mark_X4_keep : GoodIn wsX10_mark (wsV RX10 422 RX4 yX4_keep wsX4_keep) := goodIn_app (goodIn_of _ (by decide +kernel)) ggX10_mark_X4_keep
set_option maxRecDepth 20000 in
theorem ggX10_mark_X10_answer : GoodIn wsX10_mark wsX10_answer := goodIn_r _ [64, 9, 65, 66, 67, 68, 69, 70, 71, 72, 73, 74, 75, 76, 77, 78, 79, 80, 81, 82, 83] (by decide +kernel) (by decide +kernel)
set_option maxRecDepth 20000 in
theorem gX10_mark_X10_answer : GoodIn wsX10_mark (wsV RX10 181 RX10 yX10_answer wsX10_answer) := goodIn_app (goodIn_of _ (by decide +kernel)) ggX10_mark_X10_answer
theorem dX10_mark_0 : decode cX10_mark 0 = .ok (.aload_n 0, 1) := by decide +kernel
theorem dX10_mark_1 : decode cX10_mark 1 = .ok (.getfield 98, 3) := by decide +kernel
theorem dX10_mark_4 : decode cX10_mark 4 = .ok (.iconst 3, 1) := by decide +kernel
theorem dX10_mark_5 : decode cX10_mark 5 = .ok (.if_icmp .lt 9, 3) := by decide +kernel
theorem dX10_mark_8 : decode cX10_mark 8 = .ok (.aload_n 0, 1) := by decide +kernel
theorem dX10_mark_9 : decode cX10_mark 9 = .ok (.iconst 4, 1) := by decide +kernel
theorem dX10_mark_10 : decode cX10_mark 10 = .ok (.invokevirtual 139, 3) := by decide +kernel
theorem dX10_mark_13 : decode cX10_mark 13 = .ok (.ireturn, 1) := by decide +kernel
theorem dX10_mark_14 : decode cX10_mark 14 = .ok (.aload_n 0, 1) := by decide +kernel
theorem dX10_mark_15 : decode cX10_mark 15 = .ok (.aload_n 0, 1) := by decide +kernel
theorem dX10_mark_16 : decode cX10_mark 16 = .ok (.getfield 98, 3) := by decide +kernel
theorem dX10_mark_19 : decode cX10_mark 19 = .ok (.invokevirtual 418, 3) := by decide +kernel
theorem dX10_mark_22 : decode cX10_mark 22 = .ok (.aload_n 0, 1) := by decide +kernel
theorem dX10_mark_23 : decode cX10_mark 23 = .ok (.getfield 10, 3) := by decide +kernel
theorem dX10_mark_26 : decode cX10_mark 26 = .ok (.aload_n 0, 1) := by decide +kernel
theorem dX10_mark_27 : decode cX10_mark 27 = .ok (.getfield 19, 3) := by decide +kernel
theorem dX10_mark_30 : decode cX10_mark 30 = .ok (.invokevirtual 422, 3) := by decide +kernel
theorem dX10_mark_33 : decode cX10_mark 33 = .ok (.aload_n 0, 1) := by decide +kernel
theorem dX10_mark_34 : decode cX10_mark 34 = .ok (.dup, 1) := by decide +kernel
theorem dX10_mark_35 : decode cX10_mark 35 = .ok (.getfield 98, 3) := by decide +kernel
theorem dX10_mark_38 : decode cX10_mark 38 = .ok (.iconst 1, 1) := by decide +kernel
theorem dX10_mark_39 : decode cX10_mark 39 = .ok (.iadd, 1) := by decide +kernel
theorem dX10_mark_40 : decode cX10_mark 40 = .ok (.putfield 98, 3) := by decide +kernel
theorem dX10_mark_43 : decode cX10_mark 43 = .ok (.aload_n 0, 1) := by decide +kernel
theorem dX10_mark_44 : decode cX10_mark 44 = .ok (.aload_n 0, 1) := by decide +kernel
theorem dX10_mark_45 : decode cX10_mark 45 = .ok (.getfield 98, 3) := by decide +kernel
theorem dX10_mark_48 : decode cX10_mark 48 = .ok (.invokevirtual 181, 3) := by decide +kernel
theorem dX10_mark_51 : decode cX10_mark 51 = .ok (.ireturn, 1) := by decide +kernel
abbrev rmX10_mark : Room := { frames := 3, cells := 0, slots := 0, locals := 83 }
set_option maxHeartbeats 4000000 in
set_option maxRecDepth 100000 in
theorem kX10_mark (l : Launch) (D : va_G) (cy : Nat → ClassId) (h0 : Nat) (a0 : Nat → Nat) (a1 : Nat → Nat) (a2 : Nat → Nat) (a3 : Nat → Nat) (a4 : Nat → Nat) (a5 : Nat → Nat) (a6 : Nat → Nat) (a7 : Nat → Nat) (a8 : Nat → Nat) (a9 : Nat → Nat) (a10 : Nat → Nat) (a11 : Nat → Nat) (s0 : Rc) (s1 : Rc) (s2 : Rc) (s3 : Rc) (s4 : Rc) (s5 : Rc) (s6 : Rc) (s7 : Rc) (s8 : Rc) (s9 : Rc) (s10 : Rc) (s11 : Rc) (res : Int32 × Rc × Rc × Rc × Rc × Rc × Rc × Rc) (h : fX10_mark s0 s1 s2 s3 s4 s5 s6 s7 s8 s9 s10 s11 = some res) : CI l D cy yX10_mark wsX10_mark rmX10_mark [.ref h0] (flat [WX10 cy h0 a0 s0, WX0 cy (a0 0) a1 s1, WX5 cy (a0 1) a2 s2, WX4 cy (a0 4) a3 s3, WX0 cy (a3 0) a4 s4, WX5 cy (a3 1) a5 s5, WX4 cy (a0 5) a6 s6, WX0 cy (a6 0) a7 s7, WX5 cy (a6 1) a8 s8, WX4 cy (a0 6) a9 s9, WX0 cy (a9 0) a10 s10, WX5 cy (a9 1) a11 s11]) (flat [WX10 cy h0 a0 res.2.1, WX0 cy (a0 0) a1 s1, WX5 cy (a0 1) a2 s2, WX4 cy (a0 4) a3 s3, WX0 cy (a3 0) a4 res.2.2.1, WX5 cy (a3 1) a5 res.2.2.2.1, WX4 cy (a0 5) a6 s6, WX0 cy (a6 0) a7 res.2.2.2.2.1, WX5 cy (a6 1) a8 res.2.2.2.2.2.1, WX4 cy (a0 6) a9 s9, WX0 cy (a9 0) a10 res.2.2.2.2.2.2.1, WX5 cy (a9 1) a11 res.2.2.2.2.2.2.2]) res.1 := by
  refine CI.of (cc := cX10_mark) (maxL := 1) (by decide) rfl (Nat.le_of_ble_eq_true rfl) ?_
  intro p e s m args below meth c A QQ ls E hr
  obtain ⟨hx, hb, hml, hown, hts, hK, hN, hP, hD, hA, hl⟩ := E
  have hret : ∀ (pc : Nat) (H : Heap) (locs : List Loc) (ls : Array Slot) (u : Int32 × Rc × Rc × Rc × Rc × Rc × Rc × Rc), u = res → va_P D vwCl (flat [WX10 cy h0 a0 u.2.1, WX0 cy (a0 0) a1 s1, WX5 cy (a0 1) a2 s2, WX4 cy (a0 4) a3 s3, WX0 cy (a3 0) a4 u.2.2.1, WX5 cy (a3 1) a5 u.2.2.2.1, WX4 cy (a0 5) a6 s6, WX0 cy (a6 0) a7 u.2.2.2.2.1, WX5 cy (a6 1) a8 u.2.2.2.2.2.1, WX4 cy (a0 6) a9 s9, WX0 cy (a9 0) a10 u.2.2.2.2.2.2.1, WX5 cy (a9 1) a11 u.2.2.2.2.2.2.2]) H → va_D A (flat [WX10 cy h0 a0 u.2.1, WX0 cy (a0 0) a1 s1, WX5 cy (a0 1) a2 s2, WX4 cy (a0 4) a3 s3, WX0 cy (a3 0) a4 u.2.2.1, WX5 cy (a3 1) a5 u.2.2.2.1, WX4 cy (a0 5) a6 s6, WX0 cy (a6 0) a7 u.2.2.2.2.1, WX5 cy (a6 1) a8 u.2.2.2.2.2.1, WX4 cy (a0 6) a9 s9, WX0 cy (a9 0) a10 u.2.2.2.2.2.2.1, WX5 cy (a9 1) a11 u.2.2.2.2.2.2.2]) → va_S A s.heap H locs → decode cX10_mark pc = .ok (.ireturn, 1) → W p l e rmX10_mark s m args below meth c H locs 0 0 QQ (F0 m pc ls [.int u.1]) := by
    intro pc H locs ls u hu hP hD hS hd; subst hu; exact hr pc H locs ls _ rfl hP hD hS hd
  clear hr
  have hl : lv_has ls 1 [(0, .ref h0)] := hl
  have hinX10 : ∀ w ∈ wsX100, w ∈ wsX10_mark := fun _ h => List.mem_cons_of_mem _ (List.mem_append_left _ (List.mem_append_left _ (List.mem_append_left _ (List.mem_append_right _ h))))
  unfold fX10_mark at h
  suffices key : ∀ (H : Heap) (locs : List Loc), va_P D vwCl (flat [WX10 cy h0 a0 s0, WX0 cy (a0 0) a1 s1, WX5 cy (a0 1) a2 s2, WX4 cy (a0 4) a3 s3, WX0 cy (a3 0) a4 s4, WX5 cy (a3 1) a5 s5, WX4 cy (a0 5) a6 s6, WX0 cy (a6 0) a7 s7, WX5 cy (a6 1) a8 s8, WX4 cy (a0 6) a9 s9, WX0 cy (a9 0) a10 s10, WX5 cy (a9 1) a11 s11]) H → va_S A s.heap H locs → W p l e rmX10_mark s m args below meth c H locs 0 0 QQ (F0 m 0 ls []) from key _ _ hP va_S.rf
  clear hP
  intro H locs hP hS
  refine lv_aload_n hx hb dX10_mark_0 rfl (lv_at hl 0 rfl) ?_
  refine va_get (D := D) (ci := 10) (v := .int (gi s0 15)) (C := RX10) (T := TX10) (N := 19) hx hb hts hinX10 hown hK hP 0 rfl rfl 15 (by decide) (hts (.fieldLink RX10 98 "KneeBench" "marks" "I") (List.mem_of_getElem? (i := 1) rfl)) (fun _ h9 => h9) rfl dX10_mark_1 ?_
  refine lv_iconst (v := 3) hx hb dX10_mark_4 (by decide) ?_
  refine lv_icmp_lt (tgt := 14) hx hb dX10_mark_5 (by decide) (fun c1 => ?_) (fun c1 => ?_)
  · replace h := (if_pos c1).symm.trans h
    refine lv_aload_n hx hb dX10_mark_14 rfl (lv_at hl 0 rfl) ?_
    refine lv_aload_n hx hb dX10_mark_15 rfl (lv_at hl 0 rfl) ?_
    refine va_get (D := D) (ci := 10) (v := .int (gi s0 15)) (C := RX10) (T := TX10) (N := 19) hx hb hts hinX10 hown hK hP 0 rfl rfl 15 (by decide) (hts (.fieldLink RX10 98 "KneeBench" "marks" "I") (List.mem_of_getElem? (i := 1) rfl)) (fun _ h9 => h9) rfl dX10_mark_16 ?_
    by_cases c2 : (gi s0 15) = 0
    · replace h := (if_pos c2).symm.trans h
      refine ca_r (w' := [WX10 cy h0 a0 s0, WX0 cy (a0 0) a1 s1, WX5 cy (a0 1) a2 s2, WX4 cy (a0 4) a3 s3, WX0 cy (a3 0) a4 s4, WX5 cy (a3 1) a5 s5, WX4 cy (a0 5) a6 s6, WX0 cy (a6 0) a7 s7, WX5 cy (a6 1) a8 s8, WX4 cy (a0 6) a9 s9, WX0 cy (a9 0) a10 s10, WX5 cy (a9 1) a11 s11]) (rn_V (As := [.int (gi s0 15)]) (rest := []) ⟨hx, hb, hml, hown, hts⟩ (kX10_markAt l D cy h0 a0 s0 (gi s0 15) (a0 4) (if_pos c2) H.size) (cwV 1 hts gX10_mark_X10_markAt rfl rfl rfl (by decide +kernel) ⟨Nat.le_of_ble_eq_true rfl, Nat.le_of_ble_eq_true rfl⟩) hK hN hP hD [0] rfl rfl (ci := 10) (q0 := 0) rfl rfl rfl rfl hl.1 rfl (Nat.le_of_ble_eq_true rfl) dX10_mark_19 ⟨Nat.le_refl 0, Nat.le_refl 0⟩) hP hD hS hA [0] ⟨rfl, rfl, rfl, rfl⟩ (fun H locs hP hD hS => ?_)
      refine lv_aload_n hx hb dX10_mark_22 rfl (lv_at hl 0 rfl) ?_
      refine va_get (D := D) (ci := 10) (v := .ref (a0 0)) (C := RX10) (T := TX10) (N := 19) hx hb hts hinX10 hown hK hP 0 rfl rfl 0 (by decide) (hts (.fieldLink RX10 10 "KneeBench" "bench" "LKneeBench$Bench;") (List.mem_of_getElem? (i := 2) rfl)) (fun _ h9 => h9) rfl dX10_mark_23 ?_
      refine lv_aload_n hx hb dX10_mark_26 rfl (lv_at hl 0 rfl) ?_
      refine va_get (D := D) (ci := 10) (v := .ref (a0 1)) (C := RX10) (T := TX10) (N := 19) hx hb hts hinX10 hown hK hP 0 rfl rfl 1 (by decide) (hts (.fieldLink RX10 19 "KneeBench" "season" "LKneeBench$Season;") (List.mem_of_getElem? (i := 3) rfl)) (fun _ h9 => h9) rfl dX10_mark_27 ?_
      obtain ⟨r4, hr4, h⟩ := bd_elim h
      refine ca_v (w' := [WX10 cy h0 a0 s0, WX0 cy (a0 0) a1 s1, WX5 cy (a0 1) a2 s2, WX4 cy (a0 4) a3 s3, WX0 cy (a3 0) a4 r4.1, WX5 cy (a3 1) a5 r4.2, WX4 cy (a0 5) a6 s6, WX0 cy (a6 0) a7 s7, WX5 cy (a6 1) a8 s8, WX4 cy (a0 6) a9 s9, WX0 cy (a9 0) a10 s10, WX5 cy (a9 1) a11 s11]) (rn_V (As := [.ref (a0 0), .ref (a0 1)]) (rest := []) ⟨hx, hb, hml, hown, hts⟩ (kX4_keep l D cy (a0 4) (a0 0) (a0 1) a3 a4 a5 a1 a2 s3 s4 s5 s1 s2 r4 hr4 H.size) (cwV 2 hts gX10_mark_X4_keep rfl rfl rfl (by decide +kernel) ⟨Nat.le_of_ble_eq_true rfl, Nat.le_of_ble_eq_true rfl⟩) hK hN hP hD [3, 4, 5, 1, 2] rfl rfl (ci := 4) (q0 := 16) rfl rfl rfl rfl hl.1 rfl (Nat.le_of_ble_eq_true rfl) dX10_mark_30 ⟨Nat.le_refl 0, Nat.le_refl 0⟩) hP hD hS hA [3, 4, 5, 1, 2] ⟨rfl, rfl, rfl, rfl⟩ (fun H locs hP hD hS => ?_)
      refine lv_aload_n hx hb dX10_mark_33 rfl (lv_at hl 0 rfl) ?_
      refine lv_dup hx hb dX10_mark_34 rfl ?_
      refine va_get (D := D) (ci := 10) (v := .int (gi s0 15)) (C := RX10) (T := TX10) (N := 19) hx hb hts hinX10 hown hK hP 0 rfl rfl 15 (by decide) (hts (.fieldLink RX10 98 "KneeBench" "marks" "I") (List.mem_of_getElem? (i := 1) rfl)) (fun _ h9 => h9) rfl dX10_mark_35 ?_
      refine lv_iconst (v := 1) hx hb dX10_mark_38 (by decide) ?_
      refine lv_iadd hx hb dX10_mark_39 ?_
      obtain ⟨s0_5, es, h⟩ := lt_elim h
      refine va_put (D := D) (ci := 10) (v := .int ((gi s0 15) + (1 : Int32))) (ty := .int) (C := RX10) (T := TX10) (N := 19) hx hb hts hinX10 tyX10 tyX10_ok nmX10 hown hK hP hD hS 0 rfl rfl 15 (by decide) (hts (.fieldLink RX10 98 "KneeBench" "marks" "I") (List.mem_of_getElem? (i := 1) rfl)) (fun _ h9 => h9) rfl (by decide +kernel) rfl rfl (Nat.le_of_ble_eq_true rfl) dX10_mark_40 (fun H locs hP hD hS => ?_)
      have hP : va_P D vwCl (flat [WX10 cy h0 a0 s0_5, WX0 cy (a0 0) a1 s1, WX5 cy (a0 1) a2 s2, WX4 cy (a0 4) a3 s3, WX0 cy (a3 0) a4 r4.1, WX5 cy (a3 1) a5 r4.2, WX4 cy (a0 5) a6 s6, WX0 cy (a6 0) a7 s7, WX5 cy (a6 1) a8 s8, WX4 cy (a0 6) a9 s9, WX0 cy (a9 0) a10 s10, WX5 cy (a9 1) a11 s11]) H := by rw [es]; exact hP
      have hD : va_D A (flat [WX10 cy h0 a0 s0_5, WX0 cy (a0 0) a1 s1, WX5 cy (a0 1) a2 s2, WX4 cy (a0 4) a3 s3, WX0 cy (a3 0) a4 r4.1, WX5 cy (a3 1) a5 r4.2, WX4 cy (a0 5) a6 s6, WX0 cy (a6 0) a7 s7, WX5 cy (a6 1) a8 s8, WX4 cy (a0 6) a9 s9, WX0 cy (a9 0) a10 s10, WX5 cy (a9 1) a11 s11]) := by rw [es]; exact hD
      clear es
      refine lv_aload_n hx hb dX10_mark_43 rfl (lv_at hl 0 rfl) ?_
      refine lv_aload_n hx hb dX10_mark_44 rfl (lv_at hl 0 rfl) ?_
      refine va_get (D := D) (ci := 10) (v := .int (gi s0_5 15)) (C := RX10) (T := TX10) (N := 19) hx hb hts hinX10 hown hK hP 0 rfl rfl 15 (by decide) (hts (.fieldLink RX10 98 "KneeBench" "marks" "I") (List.mem_of_getElem? (i := 1) rfl)) (fun _ h9 => h9) rfl dX10_mark_45 ?_
      obtain ⟨r6, hr6, h⟩ := lt_elim h
      refine ca_i (w' := [WX10 cy h0 a0 r6.2, WX0 cy (a0 0) a1 s1, WX5 cy (a0 1) a2 s2, WX4 cy (a0 4) a3 s3, WX0 cy (a3 0) a4 r4.1, WX5 cy (a3 1) a5 r4.2, WX4 cy (a0 5) a6 s6, WX0 cy (a6 0) a7 s7, WX5 cy (a6 1) a8 s8, WX4 cy (a0 6) a9 s9, WX0 cy (a9 0) a10 s10, WX5 cy (a9 1) a11 s11]) (rn_V (As := [.int (gi s0_5 15)]) (rest := []) ⟨hx, hb, hml, hown, hts⟩ (kX10_answer l D cy h0 a0 s0_5 (gi s0_5 15) r6 hr6.symm H.size) (cwV 1 hts gX10_mark_X10_answer rfl rfl rfl (by decide +kernel) ⟨Nat.le_of_ble_eq_true rfl, Nat.le_of_ble_eq_true rfl⟩) hK hN hP hD [0] rfl rfl (ci := 10) (q0 := 0) rfl rfl rfl rfl hl.1 rfl (Nat.le_of_ble_eq_true rfl) dX10_mark_48 ⟨Nat.le_refl 0, Nat.le_refl 0⟩) hP hD hS hA [0] ⟨rfl, rfl, rfl, rfl⟩ (fun H locs hP hD hS => ?_)
      exact hret 51 H locs ls (r6.1, r6.2, r4.1, r4.2, s7, s8, s10, s11) (Option.some.inj h) hP hD hS dX10_mark_51
    · replace h := (if_neg c2).symm.trans h
      by_cases c3 : (gi s0 15) = 1
      · replace h := (if_pos c3).symm.trans h
        refine ca_r (w' := [WX10 cy h0 a0 s0, WX0 cy (a0 0) a1 s1, WX5 cy (a0 1) a2 s2, WX4 cy (a0 4) a3 s3, WX0 cy (a3 0) a4 s4, WX5 cy (a3 1) a5 s5, WX4 cy (a0 5) a6 s6, WX0 cy (a6 0) a7 s7, WX5 cy (a6 1) a8 s8, WX4 cy (a0 6) a9 s9, WX0 cy (a9 0) a10 s10, WX5 cy (a9 1) a11 s11]) (rn_V (As := [.int (gi s0 15)]) (rest := []) ⟨hx, hb, hml, hown, hts⟩ (kX10_markAt l D cy h0 a0 s0 (gi s0 15) (a0 5) ((if_neg c2).trans (if_pos c3)) H.size) (cwV 1 hts gX10_mark_X10_markAt rfl rfl rfl (by decide +kernel) ⟨Nat.le_of_ble_eq_true rfl, Nat.le_of_ble_eq_true rfl⟩) hK hN hP hD [0] rfl rfl (ci := 10) (q0 := 0) rfl rfl rfl rfl hl.1 rfl (Nat.le_of_ble_eq_true rfl) dX10_mark_19 ⟨Nat.le_refl 0, Nat.le_refl 0⟩) hP hD hS hA [0] ⟨rfl, rfl, rfl, rfl⟩ (fun H locs hP hD hS => ?_)
        refine lv_aload_n hx hb dX10_mark_22 rfl (lv_at hl 0 rfl) ?_
        refine va_get (D := D) (ci := 10) (v := .ref (a0 0)) (C := RX10) (T := TX10) (N := 19) hx hb hts hinX10 hown hK hP 0 rfl rfl 0 (by decide) (hts (.fieldLink RX10 10 "KneeBench" "bench" "LKneeBench$Bench;") (List.mem_of_getElem? (i := 2) rfl)) (fun _ h9 => h9) rfl dX10_mark_23 ?_
        refine lv_aload_n hx hb dX10_mark_26 rfl (lv_at hl 0 rfl) ?_
        refine va_get (D := D) (ci := 10) (v := .ref (a0 1)) (C := RX10) (T := TX10) (N := 19) hx hb hts hinX10 hown hK hP 0 rfl rfl 1 (by decide) (hts (.fieldLink RX10 19 "KneeBench" "season" "LKneeBench$Season;") (List.mem_of_getElem? (i := 3) rfl)) (fun _ h9 => h9) rfl dX10_mark_27 ?_
        obtain ⟨r7, hr7, h⟩ := bd_elim h
        refine ca_v (w' := [WX10 cy h0 a0 s0, WX0 cy (a0 0) a1 s1, WX5 cy (a0 1) a2 s2, WX4 cy (a0 4) a3 s3, WX0 cy (a3 0) a4 s4, WX5 cy (a3 1) a5 s5, WX4 cy (a0 5) a6 s6, WX0 cy (a6 0) a7 r7.1, WX5 cy (a6 1) a8 r7.2, WX4 cy (a0 6) a9 s9, WX0 cy (a9 0) a10 s10, WX5 cy (a9 1) a11 s11]) (rn_V (As := [.ref (a0 0), .ref (a0 1)]) (rest := []) ⟨hx, hb, hml, hown, hts⟩ (kX4_keep l D cy (a0 5) (a0 0) (a0 1) a6 a7 a8 a1 a2 s6 s7 s8 s1 s2 r7 hr7 H.size) (cwV 2 hts gX10_mark_X4_keep rfl rfl rfl (by decide +kernel) ⟨Nat.le_of_ble_eq_true rfl, Nat.le_of_ble_eq_true rfl⟩) hK hN hP hD [6, 7, 8, 1, 2] rfl rfl (ci := 4) (q0 := 32) rfl rfl rfl rfl hl.1 rfl (Nat.le_of_ble_eq_true rfl) dX10_mark_30 ⟨Nat.le_refl 0, Nat.le_refl 0⟩) hP hD hS hA [6, 7, 8, 1, 2] ⟨rfl, rfl, rfl, rfl⟩ (fun H locs hP hD hS => ?_)
        refine lv_aload_n hx hb dX10_mark_33 rfl (lv_at hl 0 rfl) ?_
        refine lv_dup hx hb dX10_mark_34 rfl ?_
        refine va_get (D := D) (ci := 10) (v := .int (gi s0 15)) (C := RX10) (T := TX10) (N := 19) hx hb hts hinX10 hown hK hP 0 rfl rfl 15 (by decide) (hts (.fieldLink RX10 98 "KneeBench" "marks" "I") (List.mem_of_getElem? (i := 1) rfl)) (fun _ h9 => h9) rfl dX10_mark_35 ?_
        refine lv_iconst (v := 1) hx hb dX10_mark_38 (by decide) ?_
        refine lv_iadd hx hb dX10_mark_39 ?_
        obtain ⟨s0_8, es, h⟩ := lt_elim h
        refine va_put (D := D) (ci := 10) (v := .int ((gi s0 15) + (1 : Int32))) (ty := .int) (C := RX10) (T := TX10) (N := 19) hx hb hts hinX10 tyX10 tyX10_ok nmX10 hown hK hP hD hS 0 rfl rfl 15 (by decide) (hts (.fieldLink RX10 98 "KneeBench" "marks" "I") (List.mem_of_getElem? (i := 1) rfl)) (fun _ h9 => h9) rfl (by decide +kernel) rfl rfl (Nat.le_of_ble_eq_true rfl) dX10_mark_40 (fun H locs hP hD hS => ?_)
        have hP : va_P D vwCl (flat [WX10 cy h0 a0 s0_8, WX0 cy (a0 0) a1 s1, WX5 cy (a0 1) a2 s2, WX4 cy (a0 4) a3 s3, WX0 cy (a3 0) a4 s4, WX5 cy (a3 1) a5 s5, WX4 cy (a0 5) a6 s6, WX0 cy (a6 0) a7 r7.1, WX5 cy (a6 1) a8 r7.2, WX4 cy (a0 6) a9 s9, WX0 cy (a9 0) a10 s10, WX5 cy (a9 1) a11 s11]) H := by rw [es]; exact hP
        have hD : va_D A (flat [WX10 cy h0 a0 s0_8, WX0 cy (a0 0) a1 s1, WX5 cy (a0 1) a2 s2, WX4 cy (a0 4) a3 s3, WX0 cy (a3 0) a4 s4, WX5 cy (a3 1) a5 s5, WX4 cy (a0 5) a6 s6, WX0 cy (a6 0) a7 r7.1, WX5 cy (a6 1) a8 r7.2, WX4 cy (a0 6) a9 s9, WX0 cy (a9 0) a10 s10, WX5 cy (a9 1) a11 s11]) := by rw [es]; exact hD
        clear es
        refine lv_aload_n hx hb dX10_mark_43 rfl (lv_at hl 0 rfl) ?_
        refine lv_aload_n hx hb dX10_mark_44 rfl (lv_at hl 0 rfl) ?_
        refine va_get (D := D) (ci := 10) (v := .int (gi s0_8 15)) (C := RX10) (T := TX10) (N := 19) hx hb hts hinX10 hown hK hP 0 rfl rfl 15 (by decide) (hts (.fieldLink RX10 98 "KneeBench" "marks" "I") (List.mem_of_getElem? (i := 1) rfl)) (fun _ h9 => h9) rfl dX10_mark_45 ?_
        obtain ⟨r9, hr9, h⟩ := lt_elim h
        refine ca_i (w' := [WX10 cy h0 a0 r9.2, WX0 cy (a0 0) a1 s1, WX5 cy (a0 1) a2 s2, WX4 cy (a0 4) a3 s3, WX0 cy (a3 0) a4 s4, WX5 cy (a3 1) a5 s5, WX4 cy (a0 5) a6 s6, WX0 cy (a6 0) a7 r7.1, WX5 cy (a6 1) a8 r7.2, WX4 cy (a0 6) a9 s9, WX0 cy (a9 0) a10 s10, WX5 cy (a9 1) a11 s11]) (rn_V (As := [.int (gi s0_8 15)]) (rest := []) ⟨hx, hb, hml, hown, hts⟩ (kX10_answer l D cy h0 a0 s0_8 (gi s0_8 15) r9 hr9.symm H.size) (cwV 1 hts gX10_mark_X10_answer rfl rfl rfl (by decide +kernel) ⟨Nat.le_of_ble_eq_true rfl, Nat.le_of_ble_eq_true rfl⟩) hK hN hP hD [0] rfl rfl (ci := 10) (q0 := 0) rfl rfl rfl rfl hl.1 rfl (Nat.le_of_ble_eq_true rfl) dX10_mark_48 ⟨Nat.le_refl 0, Nat.le_refl 0⟩) hP hD hS hA [0] ⟨rfl, rfl, rfl, rfl⟩ (fun H locs hP hD hS => ?_)
        exact hret 51 H locs ls (r9.1, r9.2, s4, s5, r7.1, r7.2, s10, s11) (Option.some.inj h) hP hD hS dX10_mark_51
      · replace h := (if_neg c3).symm.trans h
        refine ca_r (w' := [WX10 cy h0 a0 s0, WX0 cy (a0 0) a1 s1, WX5 cy (a0 1) a2 s2, WX4 cy (a0 4) a3 s3, WX0 cy (a3 0) a4 s4, WX5 cy (a3 1) a5 s5, WX4 cy (a0 5) a6 s6, WX0 cy (a6 0) a7 s7, WX5 cy (a6 1) a8 s8, WX4 cy (a0 6) a9 s9, WX0 cy (a9 0) a10 s10, WX5 cy (a9 1) a11 s11]) (rn_V (As := [.int (gi s0 15)]) (rest := []) ⟨hx, hb, hml, hown, hts⟩ (kX10_markAt l D cy h0 a0 s0 (gi s0 15) (a0 6) ((if_neg c2).trans (if_neg c3)) H.size) (cwV 1 hts gX10_mark_X10_markAt rfl rfl rfl (by decide +kernel) ⟨Nat.le_of_ble_eq_true rfl, Nat.le_of_ble_eq_true rfl⟩) hK hN hP hD [0] rfl rfl (ci := 10) (q0 := 0) rfl rfl rfl rfl hl.1 rfl (Nat.le_of_ble_eq_true rfl) dX10_mark_19 ⟨Nat.le_refl 0, Nat.le_refl 0⟩) hP hD hS hA [0] ⟨rfl, rfl, rfl, rfl⟩ (fun H locs hP hD hS => ?_)
        refine lv_aload_n hx hb dX10_mark_22 rfl (lv_at hl 0 rfl) ?_
        refine va_get (D := D) (ci := 10) (v := .ref (a0 0)) (C := RX10) (T := TX10) (N := 19) hx hb hts hinX10 hown hK hP 0 rfl rfl 0 (by decide) (hts (.fieldLink RX10 10 "KneeBench" "bench" "LKneeBench$Bench;") (List.mem_of_getElem? (i := 2) rfl)) (fun _ h9 => h9) rfl dX10_mark_23 ?_
        refine lv_aload_n hx hb dX10_mark_26 rfl (lv_at hl 0 rfl) ?_
        refine va_get (D := D) (ci := 10) (v := .ref (a0 1)) (C := RX10) (T := TX10) (N := 19) hx hb hts hinX10 hown hK hP 0 rfl rfl 1 (by decide) (hts (.fieldLink RX10 19 "KneeBench" "season" "LKneeBench$Season;") (List.mem_of_getElem? (i := 3) rfl)) (fun _ h9 => h9) rfl dX10_mark_27 ?_
        obtain ⟨r10, hr10, h⟩ := bd_elim h
        refine ca_v (w' := [WX10 cy h0 a0 s0, WX0 cy (a0 0) a1 s1, WX5 cy (a0 1) a2 s2, WX4 cy (a0 4) a3 s3, WX0 cy (a3 0) a4 s4, WX5 cy (a3 1) a5 s5, WX4 cy (a0 5) a6 s6, WX0 cy (a6 0) a7 s7, WX5 cy (a6 1) a8 s8, WX4 cy (a0 6) a9 s9, WX0 cy (a9 0) a10 r10.1, WX5 cy (a9 1) a11 r10.2]) (rn_V (As := [.ref (a0 0), .ref (a0 1)]) (rest := []) ⟨hx, hb, hml, hown, hts⟩ (kX4_keep l D cy (a0 6) (a0 0) (a0 1) a9 a10 a11 a1 a2 s9 s10 s11 s1 s2 r10 hr10 H.size) (cwV 2 hts gX10_mark_X4_keep rfl rfl rfl (by decide +kernel) ⟨Nat.le_of_ble_eq_true rfl, Nat.le_of_ble_eq_true rfl⟩) hK hN hP hD [9, 10, 11, 1, 2] rfl rfl (ci := 4) (q0 := 48) rfl rfl rfl rfl hl.1 rfl (Nat.le_of_ble_eq_true rfl) dX10_mark_30 ⟨Nat.le_refl 0, Nat.le_refl 0⟩) hP hD hS hA [9, 10, 11, 1, 2] ⟨rfl, rfl, rfl, rfl⟩ (fun H locs hP hD hS => ?_)
        refine lv_aload_n hx hb dX10_mark_33 rfl (lv_at hl 0 rfl) ?_
        refine lv_dup hx hb dX10_mark_34 rfl ?_
        refine va_get (D := D) (ci := 10) (v := .int (gi s0 15)) (C := RX10) (T := TX10) (N := 19) hx hb hts hinX10 hown hK hP 0 rfl rfl 15 (by decide) (hts (.fieldLink RX10 98 "KneeBench" "marks" "I") (List.mem_of_getElem? (i := 1) rfl)) (fun _ h9 => h9) rfl dX10_mark_35 ?_
        refine lv_iconst (v := 1) hx hb dX10_mark_38 (by decide) ?_
        refine lv_iadd hx hb dX10_mark_39 ?_
        obtain ⟨s0_11, es, h⟩ := lt_elim h
        refine va_put (D := D) (ci := 10) (v := .int ((gi s0 15) + (1 : Int32))) (ty := .int) (C := RX10) (T := TX10) (N := 19) hx hb hts hinX10 tyX10 tyX10_ok nmX10 hown hK hP hD hS 0 rfl rfl 15 (by decide) (hts (.fieldLink RX10 98 "KneeBench" "marks" "I") (List.mem_of_getElem? (i := 1) rfl)) (fun _ h9 => h9) rfl (by decide +kernel) rfl rfl (Nat.le_of_ble_eq_true rfl) dX10_mark_40 (fun H locs hP hD hS => ?_)
        have hP : va_P D vwCl (flat [WX10 cy h0 a0 s0_11, WX0 cy (a0 0) a1 s1, WX5 cy (a0 1) a2 s2, WX4 cy (a0 4) a3 s3, WX0 cy (a3 0) a4 s4, WX5 cy (a3 1) a5 s5, WX4 cy (a0 5) a6 s6, WX0 cy (a6 0) a7 s7, WX5 cy (a6 1) a8 s8, WX4 cy (a0 6) a9 s9, WX0 cy (a9 0) a10 r10.1, WX5 cy (a9 1) a11 r10.2]) H := by rw [es]; exact hP
        have hD : va_D A (flat [WX10 cy h0 a0 s0_11, WX0 cy (a0 0) a1 s1, WX5 cy (a0 1) a2 s2, WX4 cy (a0 4) a3 s3, WX0 cy (a3 0) a4 s4, WX5 cy (a3 1) a5 s5, WX4 cy (a0 5) a6 s6, WX0 cy (a6 0) a7 s7, WX5 cy (a6 1) a8 s8, WX4 cy (a0 6) a9 s9, WX0 cy (a9 0) a10 r10.1, WX5 cy (a9 1) a11 r10.2]) := by rw [es]; exact hD
        clear es
        refine lv_aload_n hx hb dX10_mark_43 rfl (lv_at hl 0 rfl) ?_
        refine lv_aload_n hx hb dX10_mark_44 rfl (lv_at hl 0 rfl) ?_
        refine va_get (D := D) (ci := 10) (v := .int (gi s0_11 15)) (C := RX10) (T := TX10) (N := 19) hx hb hts hinX10 hown hK hP 0 rfl rfl 15 (by decide) (hts (.fieldLink RX10 98 "KneeBench" "marks" "I") (List.mem_of_getElem? (i := 1) rfl)) (fun _ h9 => h9) rfl dX10_mark_45 ?_
        obtain ⟨r12, hr12, h⟩ := lt_elim h
        refine ca_i (w' := [WX10 cy h0 a0 r12.2, WX0 cy (a0 0) a1 s1, WX5 cy (a0 1) a2 s2, WX4 cy (a0 4) a3 s3, WX0 cy (a3 0) a4 s4, WX5 cy (a3 1) a5 s5, WX4 cy (a0 5) a6 s6, WX0 cy (a6 0) a7 s7, WX5 cy (a6 1) a8 s8, WX4 cy (a0 6) a9 s9, WX0 cy (a9 0) a10 r10.1, WX5 cy (a9 1) a11 r10.2]) (rn_V (As := [.int (gi s0_11 15)]) (rest := []) ⟨hx, hb, hml, hown, hts⟩ (kX10_answer l D cy h0 a0 s0_11 (gi s0_11 15) r12 hr12.symm H.size) (cwV 1 hts gX10_mark_X10_answer rfl rfl rfl (by decide +kernel) ⟨Nat.le_of_ble_eq_true rfl, Nat.le_of_ble_eq_true rfl⟩) hK hN hP hD [0] rfl rfl (ci := 10) (q0 := 0) rfl rfl rfl rfl hl.1 rfl (Nat.le_of_ble_eq_true rfl) dX10_mark_48 ⟨Nat.le_refl 0, Nat.le_refl 0⟩) hP hD hS hA [0] ⟨rfl, rfl, rfl, rfl⟩ (fun H locs hP hD hS => ?_)
        exact hret 51 H locs ls (r12.1, r12.2, s4, s5, s7, s8, r10.1, r10.2) (Option.some.inj h) hP hD hS dX10_mark_51
  · replace h := (if_neg c1).symm.trans h
    refine lv_aload_n hx hb dX10_mark_8 rfl (lv_at hl 0 rfl) ?_
    refine lv_iconst (v := 4) hx hb dX10_mark_9 (by decide) ?_
    obtain ⟨r13, hr13, h⟩ := lt_elim h
    refine ca_i (w' := [WX10 cy h0 a0 r13.2, WX0 cy (a0 0) a1 s1, WX5 cy (a0 1) a2 s2, WX4 cy (a0 4) a3 s3, WX0 cy (a3 0) a4 s4, WX5 cy (a3 1) a5 s5, WX4 cy (a0 5) a6 s6, WX0 cy (a6 0) a7 s7, WX5 cy (a6 1) a8 s8, WX4 cy (a0 6) a9 s9, WX0 cy (a9 0) a10 s10, WX5 cy (a9 1) a11 s11]) (rn_V (As := [.int (4 : Int32)]) (rest := []) ⟨hx, hb, hml, hown, hts⟩ (kX10_refuse l D cy h0 a0 s0 (4 : Int32) r13 hr13.symm H.size) (cwV 1 hts gX10_mark_X10_refuse rfl rfl rfl (by decide +kernel) ⟨Nat.le_of_ble_eq_true rfl, Nat.le_of_ble_eq_true rfl⟩) hK hN hP hD [0] rfl rfl (ci := 10) (q0 := 0) rfl rfl rfl rfl hl.1 rfl (Nat.le_of_ble_eq_true rfl) dX10_mark_10 ⟨Nat.le_refl 0, Nat.le_refl 0⟩) hP hD hS hA [0] ⟨rfl, rfl, rfl, rfl⟩ (fun H locs hP hD hS => ?_)
    exact hret 13 H locs ls (r13.1, r13.2, s4, s5, s7, s8, s10, s11) (Option.some.inj h) hP hD hS dX10_mark_13
set_option maxRecDepth 20000 in
theorem ggX10_back_X10_refuse : GoodIn wsX10_back wsX10_refuse := goodIn_r _ [8, 9, 65, 66, 67, 68, 69, 70, 71, 72, 73, 74, 75, 76, 77, 78, 79, 80, 81, 82, 83] (by decide +kernel) (by decide +kernel)
set_option maxRecDepth 20000 in
theorem gX10_back_X10_refuse : GoodIn wsX10_back (wsV RX10 139 RX10 yX10_refuse wsX10_refuse) := goodIn_app (goodIn_of _ (by decide +kernel)) ggX10_back_X10_refuse
set_option maxRecDepth 20000 in
theorem ggX10_back_X10_markAt : GoodIn wsX10_back wsX10_markAt := goodIn_r _ [13, 14, 15, 16, 65, 66, 67, 68, 69, 70, 71, 72, 73, 74, 75, 76, 77, 78, 79, 80, 81, 82, 83] (by decide +kernel) (by decide +kernel)
set_option maxRecDepth 20000 in
theorem gX10_back_X10_markAt : GoodIn wsX10_back (wsV RX10 418 RX10 yX10_markAt wsX10_markAt) := goodIn_app (goodIn_of _ (by decide +kernel)) ggX10_back_X10_markAt
set_option maxRecDepth 20000 in
theorem ggX10_back_X4_giveBack : GoodIn wsX10_back wsX4_giveBack := goodIn_r _ [21, 22, 23, 24, 25, 26, 27, 28, 29, 30, 31, 32, 33, 34, 35, 36, 37, 38, 39, 40, 41, 42, 43, 44, 45, 46, 47, 48, 49, 50, 51, 52, 53, 54, 55, 56, 57, 58, 59, 60, 84, 85, 86, 87, 88, 89, 90, 91, 92, 93, 94, 95, 96, 97, 98, 99, 100, 101, 102, 103, 104, 105, 106, 107] (by decide +kernel) (by decide +kernel)
set_option maxRecDepth 20000 in
theorem gX10_back_X4_giveBack : GoodIn wsX10_back (wsV RX10 426 RX4 yX4_giveBack wsX4_giveBack) := goodIn_app (goodIn_of _ (by decide +kernel)) ggX10_back_X4_giveBack
set_option maxRecDepth 20000 in
theorem ggX10_back_X10_answer : GoodIn wsX10_back wsX10_answer := goodIn_r _ [64, 9, 65, 66, 67, 68, 69, 70, 71, 72, 73, 74, 75, 76, 77, 78, 79, 80, 81, 82, 83] (by decide +kernel) (by decide +kernel)
set_option maxRecDepth 20000 in
theorem gX10_back_X10_answer : GoodIn wsX10_back (wsV RX10 181 RX10 yX10_answer wsX10_answer) := goodIn_app (goodIn_of _ (by decide +kernel)) ggX10_back_X10_answer
theorem dX10_back_0 : decode cX10_back 0 = .ok (.aload_n 0, 1) := by decide +kernel
theorem dX10_back_1 : decode cX10_back 1 = .ok (.getfield 98, 3) := by decide +kernel
theorem dX10_back_4 : decode cX10_back 4 = .ok (.ifCond .ne 10, 3) := by decide +kernel
theorem dX10_back_7 : decode cX10_back 7 = .ok (.aload_n 0, 1) := by decide +kernel
theorem dX10_back_8 : decode cX10_back 8 = .ok (.bipush 6, 2) := by decide +kernel
theorem dX10_back_10 : decode cX10_back 10 = .ok (.invokevirtual 139, 3) := by decide +kernel
theorem dX10_back_13 : decode cX10_back 13 = .ok (.ireturn, 1) := by decide +kernel
theorem dX10_back_14 : decode cX10_back 14 = .ok (.aload_n 0, 1) := by decide +kernel
theorem dX10_back_15 : decode cX10_back 15 = .ok (.dup, 1) := by decide +kernel
theorem dX10_back_16 : decode cX10_back 16 = .ok (.getfield 98, 3) := by decide +kernel
theorem dX10_back_19 : decode cX10_back 19 = .ok (.iconst 1, 1) := by decide +kernel
theorem dX10_back_20 : decode cX10_back 20 = .ok (.isub, 1) := by decide +kernel
theorem dX10_back_21 : decode cX10_back 21 = .ok (.putfield 98, 3) := by decide +kernel
theorem dX10_back_24 : decode cX10_back 24 = .ok (.aload_n 0, 1) := by decide +kernel
theorem dX10_back_25 : decode cX10_back 25 = .ok (.aload_n 0, 1) := by decide +kernel
theorem dX10_back_26 : decode cX10_back 26 = .ok (.getfield 98, 3) := by decide +kernel
theorem dX10_back_29 : decode cX10_back 29 = .ok (.invokevirtual 418, 3) := by decide +kernel
theorem dX10_back_32 : decode cX10_back 32 = .ok (.aload_n 0, 1) := by decide +kernel
theorem dX10_back_33 : decode cX10_back 33 = .ok (.getfield 10, 3) := by decide +kernel
theorem dX10_back_36 : decode cX10_back 36 = .ok (.aload_n 0, 1) := by decide +kernel
theorem dX10_back_37 : decode cX10_back 37 = .ok (.getfield 19, 3) := by decide +kernel
theorem dX10_back_40 : decode cX10_back 40 = .ok (.invokevirtual 426, 3) := by decide +kernel
theorem dX10_back_43 : decode cX10_back 43 = .ok (.aload_n 0, 1) := by decide +kernel
theorem dX10_back_44 : decode cX10_back 44 = .ok (.aload_n 0, 1) := by decide +kernel
theorem dX10_back_45 : decode cX10_back 45 = .ok (.getfield 98, 3) := by decide +kernel
theorem dX10_back_48 : decode cX10_back 48 = .ok (.invokevirtual 181, 3) := by decide +kernel
theorem dX10_back_51 : decode cX10_back 51 = .ok (.ireturn, 1) := by decide +kernel
abbrev rmX10_back : Room := { frames := 3, cells := 0, slots := 0, locals := 83 }
set_option maxHeartbeats 4000000 in
set_option maxRecDepth 100000 in
theorem kX10_back (l : Launch) (D : va_G) (cy : Nat → ClassId) (h0 : Nat) (a0 : Nat → Nat) (a1 : Nat → Nat) (a2 : Nat → Nat) (a3 : Nat → Nat) (a4 : Nat → Nat) (a5 : Nat → Nat) (a6 : Nat → Nat) (a7 : Nat → Nat) (a8 : Nat → Nat) (a9 : Nat → Nat) (a10 : Nat → Nat) (a11 : Nat → Nat) (s0 : Rc) (s1 : Rc) (s2 : Rc) (s3 : Rc) (s4 : Rc) (s5 : Rc) (s6 : Rc) (s7 : Rc) (s8 : Rc) (s9 : Rc) (s10 : Rc) (s11 : Rc) (res : Int32 × Rc × Rc × Rc) (h : fX10_back s0 s1 s2 s3 s4 s5 s6 s7 s8 s9 s10 s11 = some res) : CI l D cy yX10_back wsX10_back rmX10_back [.ref h0] (flat [WX10 cy h0 a0 s0, WX0 cy (a0 0) a1 s1, WX5 cy (a0 1) a2 s2, WX4 cy (a0 4) a3 s3, WX0 cy (a3 0) a4 s4, WX5 cy (a3 1) a5 s5, WX4 cy (a0 5) a6 s6, WX0 cy (a6 0) a7 s7, WX5 cy (a6 1) a8 s8, WX4 cy (a0 6) a9 s9, WX0 cy (a9 0) a10 s10, WX5 cy (a9 1) a11 s11]) (flat [WX10 cy h0 a0 res.2.1, WX0 cy (a0 0) a1 res.2.2.1, WX5 cy (a0 1) a2 res.2.2.2, WX4 cy (a0 4) a3 s3, WX0 cy (a3 0) a4 s4, WX5 cy (a3 1) a5 s5, WX4 cy (a0 5) a6 s6, WX0 cy (a6 0) a7 s7, WX5 cy (a6 1) a8 s8, WX4 cy (a0 6) a9 s9, WX0 cy (a9 0) a10 s10, WX5 cy (a9 1) a11 s11]) res.1 := by
  refine CI.of (cc := cX10_back) (maxL := 1) (by decide) rfl (Nat.le_of_ble_eq_true rfl) ?_
  intro p e s m args below meth c A QQ ls E hr
  obtain ⟨hx, hb, hml, hown, hts, hK, hN, hP, hD, hA, hl⟩ := E
  have hret : ∀ (pc : Nat) (H : Heap) (locs : List Loc) (ls : Array Slot) (u : Int32 × Rc × Rc × Rc), u = res → va_P D vwCl (flat [WX10 cy h0 a0 u.2.1, WX0 cy (a0 0) a1 u.2.2.1, WX5 cy (a0 1) a2 u.2.2.2, WX4 cy (a0 4) a3 s3, WX0 cy (a3 0) a4 s4, WX5 cy (a3 1) a5 s5, WX4 cy (a0 5) a6 s6, WX0 cy (a6 0) a7 s7, WX5 cy (a6 1) a8 s8, WX4 cy (a0 6) a9 s9, WX0 cy (a9 0) a10 s10, WX5 cy (a9 1) a11 s11]) H → va_D A (flat [WX10 cy h0 a0 u.2.1, WX0 cy (a0 0) a1 u.2.2.1, WX5 cy (a0 1) a2 u.2.2.2, WX4 cy (a0 4) a3 s3, WX0 cy (a3 0) a4 s4, WX5 cy (a3 1) a5 s5, WX4 cy (a0 5) a6 s6, WX0 cy (a6 0) a7 s7, WX5 cy (a6 1) a8 s8, WX4 cy (a0 6) a9 s9, WX0 cy (a9 0) a10 s10, WX5 cy (a9 1) a11 s11]) → va_S A s.heap H locs → decode cX10_back pc = .ok (.ireturn, 1) → W p l e rmX10_back s m args below meth c H locs 0 0 QQ (F0 m pc ls [.int u.1]) := by
    intro pc H locs ls u hu hP hD hS hd; subst hu; exact hr pc H locs ls _ rfl hP hD hS hd
  clear hr
  have hl : lv_has ls 1 [(0, .ref h0)] := hl
  have hinX10 : ∀ w ∈ wsX100, w ∈ wsX10_back := fun _ h => List.mem_cons_of_mem _ (List.mem_append_left _ (List.mem_append_left _ (List.mem_append_left _ (List.mem_append_right _ h))))
  unfold fX10_back at h
  suffices key : ∀ (H : Heap) (locs : List Loc), va_P D vwCl (flat [WX10 cy h0 a0 s0, WX0 cy (a0 0) a1 s1, WX5 cy (a0 1) a2 s2, WX4 cy (a0 4) a3 s3, WX0 cy (a3 0) a4 s4, WX5 cy (a3 1) a5 s5, WX4 cy (a0 5) a6 s6, WX0 cy (a6 0) a7 s7, WX5 cy (a6 1) a8 s8, WX4 cy (a0 6) a9 s9, WX0 cy (a9 0) a10 s10, WX5 cy (a9 1) a11 s11]) H → va_S A s.heap H locs → W p l e rmX10_back s m args below meth c H locs 0 0 QQ (F0 m 0 ls []) from key _ _ hP va_S.rf
  clear hP
  intro H locs hP hS
  refine lv_aload_n hx hb dX10_back_0 rfl (lv_at hl 0 rfl) ?_
  refine va_get (D := D) (ci := 10) (v := .int (gi s0 15)) (C := RX10) (T := TX10) (N := 19) hx hb hts hinX10 hown hK hP 0 rfl rfl 15 (by decide) (hts (.fieldLink RX10 98 "KneeBench" "marks" "I") (List.mem_of_getElem? (i := 1) rfl)) (fun _ h9 => h9) rfl dX10_back_1 ?_
  refine lv_if_ne (tgt := 14) hx hb dX10_back_4 (by decide) (fun c1 => ?_) (fun c1 => ?_)
  · replace h := (if_neg c1).symm.trans h
    refine lv_aload_n hx hb dX10_back_14 rfl (lv_at hl 0 rfl) ?_
    refine lv_dup hx hb dX10_back_15 rfl ?_
    refine va_get (D := D) (ci := 10) (v := .int (gi s0 15)) (C := RX10) (T := TX10) (N := 19) hx hb hts hinX10 hown hK hP 0 rfl rfl 15 (by decide) (hts (.fieldLink RX10 98 "KneeBench" "marks" "I") (List.mem_of_getElem? (i := 1) rfl)) (fun _ h9 => h9) rfl dX10_back_16 ?_
    refine lv_iconst (v := 1) hx hb dX10_back_19 (by decide) ?_
    refine lv_isub hx hb dX10_back_20 ?_
    obtain ⟨s0_2, es, h⟩ := lt_elim h
    refine va_put (D := D) (ci := 10) (v := .int ((gi s0 15) - (1 : Int32))) (ty := .int) (C := RX10) (T := TX10) (N := 19) hx hb hts hinX10 tyX10 tyX10_ok nmX10 hown hK hP hD hS 0 rfl rfl 15 (by decide) (hts (.fieldLink RX10 98 "KneeBench" "marks" "I") (List.mem_of_getElem? (i := 1) rfl)) (fun _ h9 => h9) rfl (by decide +kernel) rfl rfl (Nat.le_of_ble_eq_true rfl) dX10_back_21 (fun H locs hP hD hS => ?_)
    have hP : va_P D vwCl (flat [WX10 cy h0 a0 s0_2, WX0 cy (a0 0) a1 s1, WX5 cy (a0 1) a2 s2, WX4 cy (a0 4) a3 s3, WX0 cy (a3 0) a4 s4, WX5 cy (a3 1) a5 s5, WX4 cy (a0 5) a6 s6, WX0 cy (a6 0) a7 s7, WX5 cy (a6 1) a8 s8, WX4 cy (a0 6) a9 s9, WX0 cy (a9 0) a10 s10, WX5 cy (a9 1) a11 s11]) H := by rw [es]; exact hP
    have hD : va_D A (flat [WX10 cy h0 a0 s0_2, WX0 cy (a0 0) a1 s1, WX5 cy (a0 1) a2 s2, WX4 cy (a0 4) a3 s3, WX0 cy (a3 0) a4 s4, WX5 cy (a3 1) a5 s5, WX4 cy (a0 5) a6 s6, WX0 cy (a6 0) a7 s7, WX5 cy (a6 1) a8 s8, WX4 cy (a0 6) a9 s9, WX0 cy (a9 0) a10 s10, WX5 cy (a9 1) a11 s11]) := by rw [es]; exact hD
    clear es
    refine lv_aload_n hx hb dX10_back_24 rfl (lv_at hl 0 rfl) ?_
    refine lv_aload_n hx hb dX10_back_25 rfl (lv_at hl 0 rfl) ?_
    refine va_get (D := D) (ci := 10) (v := .int (gi s0_2 15)) (C := RX10) (T := TX10) (N := 19) hx hb hts hinX10 hown hK hP 0 rfl rfl 15 (by decide) (hts (.fieldLink RX10 98 "KneeBench" "marks" "I") (List.mem_of_getElem? (i := 1) rfl)) (fun _ h9 => h9) rfl dX10_back_26 ?_
    by_cases c3 : (gi s0_2 15) = 0
    · replace h := (if_pos c3).symm.trans h
      refine ca_r (w' := [WX10 cy h0 a0 s0_2, WX0 cy (a0 0) a1 s1, WX5 cy (a0 1) a2 s2, WX4 cy (a0 4) a3 s3, WX0 cy (a3 0) a4 s4, WX5 cy (a3 1) a5 s5, WX4 cy (a0 5) a6 s6, WX0 cy (a6 0) a7 s7, WX5 cy (a6 1) a8 s8, WX4 cy (a0 6) a9 s9, WX0 cy (a9 0) a10 s10, WX5 cy (a9 1) a11 s11]) (rn_V (As := [.int (gi s0_2 15)]) (rest := []) ⟨hx, hb, hml, hown, hts⟩ (kX10_markAt l D cy h0 a0 s0_2 (gi s0_2 15) (a0 4) (if_pos c3) H.size) (cwV 1 hts gX10_back_X10_markAt rfl rfl rfl (by decide +kernel) ⟨Nat.le_of_ble_eq_true rfl, Nat.le_of_ble_eq_true rfl⟩) hK hN hP hD [0] rfl rfl (ci := 10) (q0 := 0) rfl rfl rfl rfl hl.1 rfl (Nat.le_of_ble_eq_true rfl) dX10_back_29 ⟨Nat.le_refl 0, Nat.le_refl 0⟩) hP hD hS hA [0] ⟨rfl, rfl, rfl, rfl⟩ (fun H locs hP hD hS => ?_)
      refine lv_aload_n hx hb dX10_back_32 rfl (lv_at hl 0 rfl) ?_
      refine va_get (D := D) (ci := 10) (v := .ref (a0 0)) (C := RX10) (T := TX10) (N := 19) hx hb hts hinX10 hown hK hP 0 rfl rfl 0 (by decide) (hts (.fieldLink RX10 10 "KneeBench" "bench" "LKneeBench$Bench;") (List.mem_of_getElem? (i := 2) rfl)) (fun _ h9 => h9) rfl dX10_back_33 ?_
      refine lv_aload_n hx hb dX10_back_36 rfl (lv_at hl 0 rfl) ?_
      refine va_get (D := D) (ci := 10) (v := .ref (a0 1)) (C := RX10) (T := TX10) (N := 19) hx hb hts hinX10 hown hK hP 0 rfl rfl 1 (by decide) (hts (.fieldLink RX10 19 "KneeBench" "season" "LKneeBench$Season;") (List.mem_of_getElem? (i := 3) rfl)) (fun _ h9 => h9) rfl dX10_back_37 ?_
      obtain ⟨r5, hr5, h⟩ := bd_elim h
      refine ca_v (w' := [WX10 cy h0 a0 s0_2, WX0 cy (a0 0) a1 r5.1, WX5 cy (a0 1) a2 r5.2, WX4 cy (a0 4) a3 s3, WX0 cy (a3 0) a4 s4, WX5 cy (a3 1) a5 s5, WX4 cy (a0 5) a6 s6, WX0 cy (a6 0) a7 s7, WX5 cy (a6 1) a8 s8, WX4 cy (a0 6) a9 s9, WX0 cy (a9 0) a10 s10, WX5 cy (a9 1) a11 s11]) (rn_V (As := [.ref (a0 0), .ref (a0 1)]) (rest := []) ⟨hx, hb, hml, hown, hts⟩ (kX4_giveBack l D cy (a0 4) (a0 0) (a0 1) a3 a4 a5 a1 a2 s3 s4 s5 s1 s2 r5 hr5 H.size) (cwV 2 hts gX10_back_X4_giveBack rfl rfl rfl (by decide +kernel) ⟨Nat.le_of_ble_eq_true rfl, Nat.le_of_ble_eq_true rfl⟩) hK hN hP hD [3, 4, 5, 1, 2] rfl rfl (ci := 4) (q0 := 16) rfl rfl rfl rfl hl.1 rfl (Nat.le_of_ble_eq_true rfl) dX10_back_40 ⟨Nat.le_refl 0, Nat.le_refl 0⟩) hP hD hS hA [3, 4, 5, 1, 2] ⟨rfl, rfl, rfl, rfl⟩ (fun H locs hP hD hS => ?_)
      refine lv_aload_n hx hb dX10_back_43 rfl (lv_at hl 0 rfl) ?_
      refine lv_aload_n hx hb dX10_back_44 rfl (lv_at hl 0 rfl) ?_
      refine va_get (D := D) (ci := 10) (v := .int (gi s0_2 15)) (C := RX10) (T := TX10) (N := 19) hx hb hts hinX10 hown hK hP 0 rfl rfl 15 (by decide) (hts (.fieldLink RX10 98 "KneeBench" "marks" "I") (List.mem_of_getElem? (i := 1) rfl)) (fun _ h9 => h9) rfl dX10_back_45 ?_
      obtain ⟨r6, hr6, h⟩ := lt_elim h
      refine ca_i (w' := [WX10 cy h0 a0 r6.2, WX0 cy (a0 0) a1 r5.1, WX5 cy (a0 1) a2 r5.2, WX4 cy (a0 4) a3 s3, WX0 cy (a3 0) a4 s4, WX5 cy (a3 1) a5 s5, WX4 cy (a0 5) a6 s6, WX0 cy (a6 0) a7 s7, WX5 cy (a6 1) a8 s8, WX4 cy (a0 6) a9 s9, WX0 cy (a9 0) a10 s10, WX5 cy (a9 1) a11 s11]) (rn_V (As := [.int (gi s0_2 15)]) (rest := []) ⟨hx, hb, hml, hown, hts⟩ (kX10_answer l D cy h0 a0 s0_2 (gi s0_2 15) r6 hr6.symm H.size) (cwV 1 hts gX10_back_X10_answer rfl rfl rfl (by decide +kernel) ⟨Nat.le_of_ble_eq_true rfl, Nat.le_of_ble_eq_true rfl⟩) hK hN hP hD [0] rfl rfl (ci := 10) (q0 := 0) rfl rfl rfl rfl hl.1 rfl (Nat.le_of_ble_eq_true rfl) dX10_back_48 ⟨Nat.le_refl 0, Nat.le_refl 0⟩) hP hD hS hA [0] ⟨rfl, rfl, rfl, rfl⟩ (fun H locs hP hD hS => ?_)
      exact hret 51 H locs ls (r6.1, r6.2, r5.1, r5.2) (Option.some.inj h) hP hD hS dX10_back_51
    · replace h := (if_neg c3).symm.trans h
      by_cases c4 : (gi s0_2 15) = 1
      · replace h := (if_pos c4).symm.trans h
        refine ca_r (w' := [WX10 cy h0 a0 s0_2, WX0 cy (a0 0) a1 s1, WX5 cy (a0 1) a2 s2, WX4 cy (a0 4) a3 s3, WX0 cy (a3 0) a4 s4, WX5 cy (a3 1) a5 s5, WX4 cy (a0 5) a6 s6, WX0 cy (a6 0) a7 s7, WX5 cy (a6 1) a8 s8, WX4 cy (a0 6) a9 s9, WX0 cy (a9 0) a10 s10, WX5 cy (a9 1) a11 s11]) (rn_V (As := [.int (gi s0_2 15)]) (rest := []) ⟨hx, hb, hml, hown, hts⟩ (kX10_markAt l D cy h0 a0 s0_2 (gi s0_2 15) (a0 5) ((if_neg c3).trans (if_pos c4)) H.size) (cwV 1 hts gX10_back_X10_markAt rfl rfl rfl (by decide +kernel) ⟨Nat.le_of_ble_eq_true rfl, Nat.le_of_ble_eq_true rfl⟩) hK hN hP hD [0] rfl rfl (ci := 10) (q0 := 0) rfl rfl rfl rfl hl.1 rfl (Nat.le_of_ble_eq_true rfl) dX10_back_29 ⟨Nat.le_refl 0, Nat.le_refl 0⟩) hP hD hS hA [0] ⟨rfl, rfl, rfl, rfl⟩ (fun H locs hP hD hS => ?_)
        refine lv_aload_n hx hb dX10_back_32 rfl (lv_at hl 0 rfl) ?_
        refine va_get (D := D) (ci := 10) (v := .ref (a0 0)) (C := RX10) (T := TX10) (N := 19) hx hb hts hinX10 hown hK hP 0 rfl rfl 0 (by decide) (hts (.fieldLink RX10 10 "KneeBench" "bench" "LKneeBench$Bench;") (List.mem_of_getElem? (i := 2) rfl)) (fun _ h9 => h9) rfl dX10_back_33 ?_
        refine lv_aload_n hx hb dX10_back_36 rfl (lv_at hl 0 rfl) ?_
        refine va_get (D := D) (ci := 10) (v := .ref (a0 1)) (C := RX10) (T := TX10) (N := 19) hx hb hts hinX10 hown hK hP 0 rfl rfl 1 (by decide) (hts (.fieldLink RX10 19 "KneeBench" "season" "LKneeBench$Season;") (List.mem_of_getElem? (i := 3) rfl)) (fun _ h9 => h9) rfl dX10_back_37 ?_
        obtain ⟨r7, hr7, h⟩ := bd_elim h
        refine ca_v (w' := [WX10 cy h0 a0 s0_2, WX0 cy (a0 0) a1 r7.1, WX5 cy (a0 1) a2 r7.2, WX4 cy (a0 4) a3 s3, WX0 cy (a3 0) a4 s4, WX5 cy (a3 1) a5 s5, WX4 cy (a0 5) a6 s6, WX0 cy (a6 0) a7 s7, WX5 cy (a6 1) a8 s8, WX4 cy (a0 6) a9 s9, WX0 cy (a9 0) a10 s10, WX5 cy (a9 1) a11 s11]) (rn_V (As := [.ref (a0 0), .ref (a0 1)]) (rest := []) ⟨hx, hb, hml, hown, hts⟩ (kX4_giveBack l D cy (a0 5) (a0 0) (a0 1) a6 a7 a8 a1 a2 s6 s7 s8 s1 s2 r7 hr7 H.size) (cwV 2 hts gX10_back_X4_giveBack rfl rfl rfl (by decide +kernel) ⟨Nat.le_of_ble_eq_true rfl, Nat.le_of_ble_eq_true rfl⟩) hK hN hP hD [6, 7, 8, 1, 2] rfl rfl (ci := 4) (q0 := 32) rfl rfl rfl rfl hl.1 rfl (Nat.le_of_ble_eq_true rfl) dX10_back_40 ⟨Nat.le_refl 0, Nat.le_refl 0⟩) hP hD hS hA [6, 7, 8, 1, 2] ⟨rfl, rfl, rfl, rfl⟩ (fun H locs hP hD hS => ?_)
        refine lv_aload_n hx hb dX10_back_43 rfl (lv_at hl 0 rfl) ?_
        refine lv_aload_n hx hb dX10_back_44 rfl (lv_at hl 0 rfl) ?_
        refine va_get (D := D) (ci := 10) (v := .int (gi s0_2 15)) (C := RX10) (T := TX10) (N := 19) hx hb hts hinX10 hown hK hP 0 rfl rfl 15 (by decide) (hts (.fieldLink RX10 98 "KneeBench" "marks" "I") (List.mem_of_getElem? (i := 1) rfl)) (fun _ h9 => h9) rfl dX10_back_45 ?_
        obtain ⟨r8, hr8, h⟩ := lt_elim h
        refine ca_i (w' := [WX10 cy h0 a0 r8.2, WX0 cy (a0 0) a1 r7.1, WX5 cy (a0 1) a2 r7.2, WX4 cy (a0 4) a3 s3, WX0 cy (a3 0) a4 s4, WX5 cy (a3 1) a5 s5, WX4 cy (a0 5) a6 s6, WX0 cy (a6 0) a7 s7, WX5 cy (a6 1) a8 s8, WX4 cy (a0 6) a9 s9, WX0 cy (a9 0) a10 s10, WX5 cy (a9 1) a11 s11]) (rn_V (As := [.int (gi s0_2 15)]) (rest := []) ⟨hx, hb, hml, hown, hts⟩ (kX10_answer l D cy h0 a0 s0_2 (gi s0_2 15) r8 hr8.symm H.size) (cwV 1 hts gX10_back_X10_answer rfl rfl rfl (by decide +kernel) ⟨Nat.le_of_ble_eq_true rfl, Nat.le_of_ble_eq_true rfl⟩) hK hN hP hD [0] rfl rfl (ci := 10) (q0 := 0) rfl rfl rfl rfl hl.1 rfl (Nat.le_of_ble_eq_true rfl) dX10_back_48 ⟨Nat.le_refl 0, Nat.le_refl 0⟩) hP hD hS hA [0] ⟨rfl, rfl, rfl, rfl⟩ (fun H locs hP hD hS => ?_)
        exact hret 51 H locs ls (r8.1, r8.2, r7.1, r7.2) (Option.some.inj h) hP hD hS dX10_back_51
      · replace h := (if_neg c4).symm.trans h
        refine ca_r (w' := [WX10 cy h0 a0 s0_2, WX0 cy (a0 0) a1 s1, WX5 cy (a0 1) a2 s2, WX4 cy (a0 4) a3 s3, WX0 cy (a3 0) a4 s4, WX5 cy (a3 1) a5 s5, WX4 cy (a0 5) a6 s6, WX0 cy (a6 0) a7 s7, WX5 cy (a6 1) a8 s8, WX4 cy (a0 6) a9 s9, WX0 cy (a9 0) a10 s10, WX5 cy (a9 1) a11 s11]) (rn_V (As := [.int (gi s0_2 15)]) (rest := []) ⟨hx, hb, hml, hown, hts⟩ (kX10_markAt l D cy h0 a0 s0_2 (gi s0_2 15) (a0 6) ((if_neg c3).trans (if_neg c4)) H.size) (cwV 1 hts gX10_back_X10_markAt rfl rfl rfl (by decide +kernel) ⟨Nat.le_of_ble_eq_true rfl, Nat.le_of_ble_eq_true rfl⟩) hK hN hP hD [0] rfl rfl (ci := 10) (q0 := 0) rfl rfl rfl rfl hl.1 rfl (Nat.le_of_ble_eq_true rfl) dX10_back_29 ⟨Nat.le_refl 0, Nat.le_refl 0⟩) hP hD hS hA [0] ⟨rfl, rfl, rfl, rfl⟩ (fun H locs hP hD hS => ?_)
        refine lv_aload_n hx hb dX10_back_32 rfl (lv_at hl 0 rfl) ?_
        refine va_get (D := D) (ci := 10) (v := .ref (a0 0)) (C := RX10) (T := TX10) (N := 19) hx hb hts hinX10 hown hK hP 0 rfl rfl 0 (by decide) (hts (.fieldLink RX10 10 "KneeBench" "bench" "LKneeBench$Bench;") (List.mem_of_getElem? (i := 2) rfl)) (fun _ h9 => h9) rfl dX10_back_33 ?_
        refine lv_aload_n hx hb dX10_back_36 rfl (lv_at hl 0 rfl) ?_
        refine va_get (D := D) (ci := 10) (v := .ref (a0 1)) (C := RX10) (T := TX10) (N := 19) hx hb hts hinX10 hown hK hP 0 rfl rfl 1 (by decide) (hts (.fieldLink RX10 19 "KneeBench" "season" "LKneeBench$Season;") (List.mem_of_getElem? (i := 3) rfl)) (fun _ h9 => h9) rfl dX10_back_37 ?_
        obtain ⟨r9, hr9, h⟩ := bd_elim h
        refine ca_v (w' := [WX10 cy h0 a0 s0_2, WX0 cy (a0 0) a1 r9.1, WX5 cy (a0 1) a2 r9.2, WX4 cy (a0 4) a3 s3, WX0 cy (a3 0) a4 s4, WX5 cy (a3 1) a5 s5, WX4 cy (a0 5) a6 s6, WX0 cy (a6 0) a7 s7, WX5 cy (a6 1) a8 s8, WX4 cy (a0 6) a9 s9, WX0 cy (a9 0) a10 s10, WX5 cy (a9 1) a11 s11]) (rn_V (As := [.ref (a0 0), .ref (a0 1)]) (rest := []) ⟨hx, hb, hml, hown, hts⟩ (kX4_giveBack l D cy (a0 6) (a0 0) (a0 1) a9 a10 a11 a1 a2 s9 s10 s11 s1 s2 r9 hr9 H.size) (cwV 2 hts gX10_back_X4_giveBack rfl rfl rfl (by decide +kernel) ⟨Nat.le_of_ble_eq_true rfl, Nat.le_of_ble_eq_true rfl⟩) hK hN hP hD [9, 10, 11, 1, 2] rfl rfl (ci := 4) (q0 := 48) rfl rfl rfl rfl hl.1 rfl (Nat.le_of_ble_eq_true rfl) dX10_back_40 ⟨Nat.le_refl 0, Nat.le_refl 0⟩) hP hD hS hA [9, 10, 11, 1, 2] ⟨rfl, rfl, rfl, rfl⟩ (fun H locs hP hD hS => ?_)
        refine lv_aload_n hx hb dX10_back_43 rfl (lv_at hl 0 rfl) ?_
        refine lv_aload_n hx hb dX10_back_44 rfl (lv_at hl 0 rfl) ?_
        refine va_get (D := D) (ci := 10) (v := .int (gi s0_2 15)) (C := RX10) (T := TX10) (N := 19) hx hb hts hinX10 hown hK hP 0 rfl rfl 15 (by decide) (hts (.fieldLink RX10 98 "KneeBench" "marks" "I") (List.mem_of_getElem? (i := 1) rfl)) (fun _ h9 => h9) rfl dX10_back_45 ?_
        obtain ⟨r10, hr10, h⟩ := lt_elim h
        refine ca_i (w' := [WX10 cy h0 a0 r10.2, WX0 cy (a0 0) a1 r9.1, WX5 cy (a0 1) a2 r9.2, WX4 cy (a0 4) a3 s3, WX0 cy (a3 0) a4 s4, WX5 cy (a3 1) a5 s5, WX4 cy (a0 5) a6 s6, WX0 cy (a6 0) a7 s7, WX5 cy (a6 1) a8 s8, WX4 cy (a0 6) a9 s9, WX0 cy (a9 0) a10 s10, WX5 cy (a9 1) a11 s11]) (rn_V (As := [.int (gi s0_2 15)]) (rest := []) ⟨hx, hb, hml, hown, hts⟩ (kX10_answer l D cy h0 a0 s0_2 (gi s0_2 15) r10 hr10.symm H.size) (cwV 1 hts gX10_back_X10_answer rfl rfl rfl (by decide +kernel) ⟨Nat.le_of_ble_eq_true rfl, Nat.le_of_ble_eq_true rfl⟩) hK hN hP hD [0] rfl rfl (ci := 10) (q0 := 0) rfl rfl rfl rfl hl.1 rfl (Nat.le_of_ble_eq_true rfl) dX10_back_48 ⟨Nat.le_refl 0, Nat.le_refl 0⟩) hP hD hS hA [0] ⟨rfl, rfl, rfl, rfl⟩ (fun H locs hP hD hS => ?_)
        exact hret 51 H locs ls (r10.1, r10.2, r9.1, r9.2) (Option.some.inj h) hP hD hS dX10_back_51
  · replace h := (if_pos c1).symm.trans h
    refine lv_aload_n hx hb dX10_back_7 rfl (lv_at hl 0 rfl) ?_
    refine lv_bipush (v := 6) hx hb dX10_back_8 (by decide) ?_
    obtain ⟨r11, hr11, h⟩ := lt_elim h
    refine ca_i (w' := [WX10 cy h0 a0 r11.2, WX0 cy (a0 0) a1 s1, WX5 cy (a0 1) a2 s2, WX4 cy (a0 4) a3 s3, WX0 cy (a3 0) a4 s4, WX5 cy (a3 1) a5 s5, WX4 cy (a0 5) a6 s6, WX0 cy (a6 0) a7 s7, WX5 cy (a6 1) a8 s8, WX4 cy (a0 6) a9 s9, WX0 cy (a9 0) a10 s10, WX5 cy (a9 1) a11 s11]) (rn_V (As := [.int (6 : Int32)]) (rest := []) ⟨hx, hb, hml, hown, hts⟩ (kX10_refuse l D cy h0 a0 s0 (6 : Int32) r11 hr11.symm H.size) (cwV 1 hts gX10_back_X10_refuse rfl rfl rfl (by decide +kernel) ⟨Nat.le_of_ble_eq_true rfl, Nat.le_of_ble_eq_true rfl⟩) hK hN hP hD [0] rfl rfl (ci := 10) (q0 := 0) rfl rfl rfl rfl hl.1 rfl (Nat.le_of_ble_eq_true rfl) dX10_back_10 ⟨Nat.le_refl 0, Nat.le_refl 0⟩) hP hD hS hA [0] ⟨rfl, rfl, rfl, rfl⟩ (fun H locs hP hD hS => ?_)
    exact hret 13 H locs ls (r11.1, r11.2, s1, s2) (Option.some.inj h) hP hD hS dX10_back_13
