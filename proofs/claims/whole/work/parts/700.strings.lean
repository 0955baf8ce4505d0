/-! ===== the strings that the classes hold; objects that are made ===== -/
def tx0 : String := "farmer ahead behind fails false elbow cured dislikes weather vote most weights any all rain dry hail feel lie on cure brandy learn when says trust days loop end stop "
def tx1 : String := " farmer dislikes weather vote ahead behind fails false elbow cured most weights any all rain hail dry feel lie cure brandy learn on when loop end stop says trust days "
/-- a string constant at q, its row of n bytes at t -/
def LTx (q t n : Nat) (byt : List Int32) (A : Nat → Prop) (U : State) (H : Heap) : Prop :=
  va_O "java/lang/String" q A U H ∧ va_OF "java/lang/String" "coder" "B" (.int 0) q A U H ∧ va_OF "java/lang/String" "value" "[B" (.ref t) q A U H ∧ va_T .byte t n (fun j => .int (byt.getD j 0)) A U H
theorem LTx.moved {q t n : Nat} {byt : List Int32} {A : Nat → Prop} {u U : State} {H : Heap} (hvm : u.vm.Alike U.vm) (h : LTx q t n byt A u H) : LTx q t n byt A U H := ⟨va_O.moved hvm h.1, va_OF.moved hvm h.2.1, va_OF.moved hvm h.2.2.1, va_T.moved hvm h.2.2.2⟩
theorem LTx.kept {q t n : Nat} {byt : List Int32} {A : Nat → Prop} {U : State} {H H1 : Heap} (h : LTx q t n byt A U H) (hq : ∀ a : Nat, a < H.size → ¬ A a → H1[a]? = H[a]?) : LTx q t n byt A U H1 := ⟨h.1.kept hq, h.2.1.kept hq, h.2.2.1.kept hq, h.2.2.2.kept hq⟩
theorem LTx.narrow {q t n : Nat} {byt : List Int32} {A B : Nat → Prop} {U : State} {H : Heap} (h : LTx q t n byt A U H) (hAB : ∀ q, B q → A q) : LTx q t n byt B U H := ⟨h.1.narrow hAB, h.2.1.narrow hAB, h.2.2.1.narrow hAB, h.2.2.2.narrow hAB⟩
/-- the formatter: null, or some object -/
def zv (z : Nat) : Value := match z with
  | 0 => .null
  | k + 1 => .ref k
/-- the library's statics that strings use -/
def ZL (z : Nat) (A : Nat → Prop) (U : State) (H : Heap) : Prop := va_Z "java/lang/String" "COMPACT_STRINGS" "Z" (.int 1) A U H ∧ va_Z "jdk/internal/util/Preconditions" "SIOOBE_FORMATTER" "Ljava/util/function/BiFunction;" (zv z) A U H
theorem ZL.moved {z : Nat} {A : Nat → Prop} {u U : State} {H : Heap} (hvm : u.vm.Alike U.vm) (h : ZL z A u H) : ZL z A U H := ⟨va_Z.moved hvm h.1, va_Z.moved hvm h.2⟩
theorem ZL.kept {z : Nat} {A : Nat → Prop} {U : State} {H H1 : Heap} (h : ZL z A U H) (hq : ∀ a : Nat, a < H.size → ¬ A a → H1[a]? = H[a]?) : ZL z A U H1 := ⟨h.1.kept hq, h.2.kept hq⟩
theorem ZL.narrow {z : Nat} {A B : Nat → Prop} {U : State} {H : Heap} (h : ZL z A U H) (hAB : ∀ q, B q → A q) : ZL z B U H := ⟨h.1.narrow hAB, h.2.narrow hAB⟩
/-- all of it, by the addresses S: the class' words and their row, the reference's words and their row, the formatter -/
def SX (S : Nat → Nat) (A : Nat → Prop) (U : State) (H : Heap) : Prop :=
  (vk_R "KneeBench$Tokens" 59 tx0 (S 0) U ∧ vk_R "KneeBenchModel" 168 tx1 (S 2) U) ∧ LTx (S 0) (S 1) 166 by0 A U H ∧ LTx (S 2) (S 3) 167 by1 A U H ∧ ZL (S 4) A U H
theorem SX.go {S : Nat → Nat} {A B : Nat → Prop} {s U : State} {H : Heap} {locs : List Loc} (h : SX S A s s.heap) (hS : va_S A s.heap H locs) (hAB : ∀ q, B q → A q) (hW : s.WarmedH U.vm) : SX S B U H := by
  obtain ⟨⟨h1, h2⟩, h3, h4, h5⟩ := h
  exact ⟨⟨h1.warm hW, h2.warm hW⟩, ((h3.kept hS.2.1).narrow hAB).moved hW.alike, ((h4.kept hS.2.1).narrow hAB).moved hW.alike, ((h5.kept hS.2.1).narrow hAB).moved hW.alike⟩
theorem SX.same {S : Nat → Nat} {A : Nat → Prop} {u U : State} {H : Heap} (e : u.vm = U.vm) (h : SX S A u H) : SX S A U H := by
  obtain ⟨⟨h1, h2⟩, h3, h4, h5⟩ := h
  have ha : u.vm.Alike U.vm := e ▸ Vm.Alike.refl u.vm
  exact ⟨⟨h1.same e.symm, h2.same e.symm⟩, h3.moved ha, h4.moved ha, h5.moved ha⟩
/-- worlds with the strings beside them -/
def pr2 (S : Nat → Nat) (D : va_G) (cy : Nat → ClassId) (w : va_W) (sz : Nat) (U : State) : Prop := pr_ D cy w sz U ∧ SX S (va_A w sz) U U.heap
theorem pr2_blind (S : Nat → Nat) (D : va_G) (cy : Nat → ClassId) (w : va_W) (sz : Nat) (av : List Value) : FrameBlind (va_Pc av (pr2 S D cy w sz)) := fun a U g mk q => by
  obtain ⟨q0, q1, qX⟩ := q
  obtain ⟨p0, p1⟩ := pr_blind D cy w sz av a U g mk ⟨q0, q1⟩
  exact ⟨p0, p1, SX.same (u := U) (U := U.calling g mk a) rfl qX⟩
abbrev CI2 (S : Nat → Nat) (l : Launch) (D : va_G) (cy : Nat → ClassId) (y : MethodName) (ws : List Cond) (rm : Room) (av : List Value) (w0 w1 : va_W) (r : Int32) : Prop :=
  ∀ sz, Met l y ws rm (va_Pc av (pr2 S D cy w0 sz)) (va_Qi (fun x (_ : Unit) => x = r) (po_ D cy (va_A w0 sz) w1) (va_A w0 sz)) 0 0 (va_A w0 sz)
abbrev CZ2 (S : Nat → Nat) (l : Launch) (D : va_G) (cy : Nat → ClassId) (y : MethodName) (ws : List Cond) (rm : Room) (av : List Value) (w0 w1 : va_W) (r : Int32) : Prop :=
  ∀ sz, Met l y ws rm (va_Pc av (pr2 S D cy w0 sz)) (va_Qi (fun x (_ : Unit) => x = r ∧ isb r = true) (po_ D cy (va_A w0 sz) w1) (va_A w0 sz)) 0 0 (va_A w0 sz)
/-- a constructor: mc cells of ms slots come, at addresses u -/
abbrev CN (S : Nat → Nat) (l : Launch) (D : va_G) (cy : Nat → ClassId) (y : MethodName) (ws : List Cond) (rm : Room) (av : List Value) (w0 : va_W) (w1 : (Nat → Nat → Nat) → va_W) (mc ms : Nat) : Prop :=
  ∀ sz, Met l y ws rm (va_Pc av (pr2 S D cy w0 sz)) (va_Qv (fun (_ : Nat → Nat → Nat) => True) (fun u t => po_ D cy (va_A w0 sz) (w1 u) () t) (va_A w0 sz)) mc ms (va_A w0 sz)
theorem CI2.of {S : Nat → Nat} {l : Launch} {D : va_G} {cy : Nat → ClassId} {y : MethodName} {ws ws' : List Cond} {rm : Room} {av : List Value} {w0 w1 : va_W} {r : Int32} {cc : ByteArray} {maxL : Nat}
    (hy : plainName y.cls = true) (hw : ws = Cond.code y cc maxL (some .int) :: ws') (hL : (lg_sl av).length ≤ maxL)
    (body : ∀ (p : Program) (e : Env) (s : State) (m : MethodId) (args : Array Value) (below : List Frame) (meth : Method) (c : Code) (A : Nat → Prop) (QQ : State → Prop) (ls : Array Slot), ent p s m args c cc maxL ws y.cls D cy A w0 av ls → SX S A s s.heap →
      (∀ (pc : Nat) (H : Heap) (locs : List Loc) (ls : Array Slot) (x : Int32), x = r → va_P D vwCl w1 H → va_D A w1 → va_S A s.heap H locs → decode cc pc = .ok (.ireturn, 1) → W p l e rm s m args below meth c H locs 0 0 QQ (F0 m pc ls [.int x])) →
      W p l e rm s m args below meth c s.heap [] 0 0 QQ (F0 m 0 ls [])) : CI2 S l D cy y ws rm av w0 w1 r := by
  intro sz
  refine Met.ofW (cc := cc) (maxL := maxL) (ret := some .int) hy hw ?_
  intro p e s m args below meth c s₁ B hml hv
  obtain ⟨rfl, ⟨hsz, hP, hK, hD0, hN⟩, hX⟩ := hv
  subst hsz
  have hl := lv_entry av (n := maxL) hL
  rw [lg_entry_eq]
  generalize (lg_sl av ++ List.replicate (maxL - (lg_sl av).length) Slot.unset).toArray = ls at hl ⊢
  refine body p e s m _ below meth c (va_A w0 s.heap.size) _ ls ⟨B.exec, B.bytes, hml, findClass_of_methodNamed B.named, atoms_spec (ws := ws) B.pre, hK, hN, hP, hD0.self, fun q h => Or.inr h, hl⟩ hX ?_
  intro pc H locs ls x hx hP hD hS hd
  have hlocks := B.notSynchronized
  exact W.iret (v := x) B.exec B.bytes B.returns (fun t ht hW => ⟨⟨x, (), rfl, hx, by rw [ht]; exact hP, va_K.moved hW.alike hK, hD⟩, hS.F ht⟩) hS.2.2 hd
theorem CZ2.of {S : Nat → Nat} {l : Launch} {D : va_G} {cy : Nat → ClassId} {y : MethodName} {ws ws' : List Cond} {rm : Room} {av : List Value} {w0 w1 : va_W} {r : Int32} {cc : ByteArray} {maxL : Nat}
    (hy : plainName y.cls = true) (hw : ws = Cond.code y cc maxL (some .boolean) :: ws') (hL : (lg_sl av).length ≤ maxL)
    (body : ∀ (p : Program) (e : Env) (s : State) (m : MethodId) (args : Array Value) (below : List Frame) (meth : Method) (c : Code) (A : Nat → Prop) (QQ : State → Prop) (ls : Array Slot), ent p s m args c cc maxL ws y.cls D cy A w0 av ls → SX S A s s.heap →
      (∀ (pc : Nat) (H : Heap) (locs : List Loc) (ls : Array Slot) (x : Int32), x = r → va_P D vwCl w1 H → va_D A w1 → va_S A s.heap H locs → isb x = true → decode cc pc = .ok (.ireturn, 1) → W p l e rm s m args below meth c H locs 0 0 QQ (F0 m pc ls [.int x])) →
      W p l e rm s m args below meth c s.heap [] 0 0 QQ (F0 m 0 ls [])) : CZ2 S l D cy y ws rm av w0 w1 r := by
  intro sz
  refine Met.ofW (cc := cc) (maxL := maxL) (ret := some .boolean) hy hw ?_
  intro p e s m args below meth c s₁ B hml hv
  obtain ⟨rfl, ⟨hsz, hP, hK, hD0, hN⟩, hX⟩ := hv
  subst hsz
  have hl := lv_entry av (n := maxL) hL
  rw [lg_entry_eq]
  generalize (lg_sl av ++ List.replicate (maxL - (lg_sl av).length) Slot.unset).toArray = ls at hl ⊢
  refine body p e s m _ below meth c (va_A w0 s.heap.size) _ ls ⟨B.exec, B.bytes, hml, findClass_of_methodNamed B.named, atoms_spec (ws := ws) B.pre, hK, hN, hP, hD0.self, fun q h => Or.inr h, hl⟩ hX ?_
  intro pc H locs ls x hx hP hD hS hz hd
  have hlocks := B.notSynchronized
  exact W.zret (v := x) B.exec B.bytes B.returns (isb_nar hz) (fun t ht hW => ⟨⟨x, (), rfl, ⟨hx, hx ▸ hz⟩, by rw [ht]; exact hP, va_K.moved hW.alike hK, hD⟩, hS.F ht⟩) hS.2.2 hd
theorem CN.of {S : Nat → Nat} {l : Launch} {D : va_G} {cy : Nat → ClassId} {y : MethodName} {ws ws' : List Cond} {rm : Room} {av : List Value} {w0 : va_W} {w1 : (Nat → Nat → Nat) → va_W} {mc ms : Nat} {cc : ByteArray} {maxL : Nat}
    (hy : plainName y.cls = true) (hyn : y.name = "<init>") (hw : ws = Cond.code y cc maxL none :: ws') (hL : (lg_sl av).length ≤ maxL)
    (body : ∀ (p : Program) (e : Env) (s : State) (m : MethodId) (args : Array Value) (below : List Frame) (meth : Method) (c : Code) (A : Nat → Prop) (QQ : State → Prop) (ls : Array Slot), ent p s m args c cc maxL ws y.cls D cy A w0 av ls → SX S A s s.heap → meth.name = "<init>" →
      (∀ (pc : Nat) (H : Heap) (locs : List Loc) (ls : Array Slot) (u : Nat → Nat → Nat), va_P D vwCl (w1 u) H → va_D A (w1 u) → va_S A s.heap H locs → decode cc pc = .ok (.return_, 1) → W p l e rm s m args below meth c H locs mc ms QQ (F0 m pc ls [])) →
      W p l e rm s m args below meth c s.heap [] 0 0 QQ (F0 m 0 ls [])) : CN S l D cy y ws rm av w0 w1 mc ms := by
  intro sz
  refine Met.ofW (cc := cc) (maxL := maxL) (ret := none) hy hw ?_
  intro p e s m args below meth c s₁ B hml hv
  obtain ⟨rfl, ⟨hsz, hP, hK, hD0, hN⟩, hX⟩ := hv
  subst hsz
  have hl := lv_entry av (n := maxL) hL
  rw [lg_entry_eq]
  generalize (lg_sl av ++ List.replicate (maxL - (lg_sl av).length) Slot.unset).toArray = ls at hl ⊢
  refine body p e s m _ below meth c (va_A w0 s.heap.size) _ ls ⟨B.exec, B.bytes, hml, findClass_of_methodNamed B.named, atoms_spec (ws := ws) B.pre, hK, hN, hP, hD0.self, fun q h => Or.inr h, hl⟩ hX ((name_of_methodNamed B.named B.method).1.trans hyn) ?_
  intro pc H locs ls u hP hD hS hd
  have hlocks := B.notSynchronized
  exact W.vret B.exec B.bytes B.returns (fun t ht hW => ⟨⟨u, rfl, trivial, by rw [ht]; exact hP, va_K.moved hW.alike hK, hD⟩, hS.F ht⟩) hS.2.2 hd
section CALLS2
variable {p : Program} {l : Launch} {e : Env} {R : Room} {s : State} {m : MethodId} {args : Array Value} {below : List Frame} {meth : Method} {c : Code} {H : Heap} {locs : List Loc} {cells slots : Nat} {Q : State → Prop}
variable {y : MethodName} {bytes cc : ByteArray} {maxL nL n index mc ms : Nat} {ret : Option FieldType} {ws : List Cond} {rm : Room} {Ts : List Cond} {own C host : String} {b : Nat} {As rest st0 : List Value}
variable {pc : Nat} {ls : Array Slot} {D : va_G} {cy : Nat → ClassId} {A : Nat → Prop} {w wc wr : va_W} {w1 : (Nat → Nat → Nat) → va_W} {S : Nat → Nat}
theorem ca_pre2 {w wc : List va_W} (hK : va_K D vwCl (tyL cy) s) (hN : NW s) (hX : SX S A s s.heap) (hP : va_P D vwCl (flat w) H) (hD : va_D A (flat w)) (hS : va_S A s.heap H locs) (hA : ∀ q, s.heap.size ≤ q → A q) (isC : List Nat) (hC : isC.map (fun i => w[i]?) = wc.map some) (hn : va_nd isC = true) (av : List Value) :
    ∀ U : State, U.heap = H → s.WarmedH U.vm → va_Pc av (pr2 S D cy (flat wc) H.size) av.toArray U := by
  intro U hU hW
  obtain ⟨h1, h2⟩ := ca_pre hK hN hP hD isC hC hn av U hU hW
  refine ⟨h1, h2, ?_⟩
  rw [hU]
  exact hX.go hS (ca_free hD hS hA isC hC) hW
theorem ca_pre2R (hK : va_K D vwCl (tyL cy) s) (hN : NW s) (hX : SX S A s s.heap) (hP : va_P D vwCl w H) (hD : va_D A w) (hS : va_S A s.heap H locs) (hA : ∀ q, s.heap.size ≤ q → A q) (isC : List Nat) (hC : isC.map (fun i => w[i]?) = wc.map some) (hn : va_nd isC = true) (av : List Value) :
    ∀ U : State, U.heap = H → s.WarmedH U.vm → va_Pc av (pr2 S D cy wc H.size) av.toArray U := by
  intro U hU hW
  obtain ⟨h1, h2⟩ := ca_preR hK hN hP hD isC hC hn av U hU hW
  refine ⟨h1, h2, ?_⟩
  rw [hU]
  exact hX.go hS (va_free hD hS hA isC hC) hW
theorem rn_V2 {w wc : List va_W} {Qc : Array Value → State → Outcome → State → Prop} {free : Addr → Prop} (F : CallFix p m c cc nL s args Ts own) (hM : Met l y ws rm (va_Pc (.ref b :: As) (pr2 S D cy (flat wc) H.size)) Qc 0 0 free) (cw : CallW R s args own C index y bytes maxL ret ws rm 0 0 n) (hK : va_K D vwCl (tyL cy) s) (hN : NW s) (hX : SX S A s s.heap) (hP : va_P D vwCl (flat w) H) (hD : va_D A (flat w)) (hS : va_S A s.heap H locs) (hA : ∀ q, s.heap.size ≤ q → A q) (isC : List Nat) (hC : isC.map (fun i => w[i]?) = wc.map some) (hn : va_nd isC = true)
    {ci q0 : Nat} {q : vw_C} {fs : List Value} (hc : vwCl[ci]? = some q) (he : (flat w)[q0]? = some (b, .inr (ci, fs))) (hq : q.1 = C) (hl : As.length = n) (hsize : ls.size = nL) (hstack : st0 = As.reverse ++ .ref b :: rest) (hW : (rest.map fun v => v.category).sum ≤ 8) (hdg : decode cc pc = .ok (.invokevirtual index, 3)) (hf : cells ≤ R.cells ∧ slots ≤ R.slots) :
    va_Run p l e R s m args below meth c H locs cells slots 0 0 (F0 m pc ls st0) rest (Qc (Value.ref b :: As).toArray) free := by
  subst hq
  exact va_runV F hM cw ⟨pr2_blind S D cy (flat wc) H.size _, va_recv hK hP hc he, ca_pre2 hK hN hX hP hD hS hA isC hC hn _⟩ rfl hl hsize hstack (lv_room hW) hdg hf
/-- constructors: plain, and a nest mate's -/
theorem rn_I {Qc : Array Value → State → Outcome → State → Prop} {free : Addr → Prop} (F : CallFix p m c cc nL s args Ts own) (hM : Met l y ws rm (va_Pc (.ref b :: As) (pr2 S D cy wc H.size)) Qc mc ms free) (cw : CallB R s args own index y bytes maxL none ws rm mc ms n ∧ y.name = "<init>" ∧ (Cond.instanceMethod y).before args s = true) (hK : va_K D vwCl (tyL cy) s) (hN : NW s) (hX : SX S A s s.heap) (hP : va_P D vwCl w H) (hD : va_D A w) (hS : va_S A s.heap H locs) (hA : ∀ q, s.heap.size ≤ q → A q) (isC : List Nat) (hC : isC.map (fun i => w[i]?) = wc.map some) (hn : va_nd isC = true)
    (hl : As.length = n) (hsize : ls.size = nL) (hstack : st0 = As.reverse ++ .ref b :: rest) (hW : (rest.map fun v => v.category).sum ≤ 8) (hdg : decode cc pc = .ok (.invokespecial index, 3)) (hf : cells + mc ≤ R.cells ∧ slots + ms ≤ R.slots) :
    va_Run p l e R s m args below meth c H locs cells slots mc ms (F0 m pc ls st0) rest (Qc (Value.ref b :: As).toArray) free :=
  va_runI F hM cw ⟨pr2_blind S D cy wc H.size _, ca_pre2R hK hN hX hP hD hS hA isC hC hn _⟩ rfl hl hsize hstack (lv_room hW) hdg hf
theorem rn_IN {Qc : Array Value → State → Outcome → State → Prop} {free : Addr → Prop} (F : CallFix p m c cc nL s args Ts own) (hM : Met l y ws rm (va_Pc (.ref b :: As) (pr2 S D cy wc H.size)) Qc mc ms free) (cw : va_CN R s args own index y host bytes maxL none ws rm mc ms n ∧ y.name = "<init>" ∧ (Cond.instanceMethod y).before args s = true) (hK : va_K D vwCl (tyL cy) s) (hN : NW s) (hX : SX S A s s.heap) (hP : va_P D vwCl w H) (hD : va_D A w) (hS : va_S A s.heap H locs) (hA : ∀ q, s.heap.size ≤ q → A q) (isC : List Nat) (hC : isC.map (fun i => w[i]?) = wc.map some) (hn : va_nd isC = true)
    (hl : As.length = n) (hsize : ls.size = nL) (hstack : st0 = As.reverse ++ .ref b :: rest) (hW : (rest.map fun v => v.category).sum ≤ 8) (hdg : decode cc pc = .ok (.invokespecial index, 3)) (hf : cells + mc ≤ R.cells ∧ slots + ms ≤ R.slots) :
    va_Run p l e R s m args below meth c H locs cells slots mc ms (F0 m pc ls st0) rest (Qc (Value.ref b :: As).toArray) free :=
  va_runIN F hM cw ⟨pr2_blind S D cy wc H.size _, ca_pre2R hK hN hX hP hD hS hA isC hC hn _⟩ rfl hl hsize hstack (lv_room hW) hdg hf
theorem ca_n {a : Array Value} (hr : va_Run p l e R s m args below meth c H locs cells slots mc ms (F0 m pc ls st0) rest (va_Qv (fun (_ : Nat → Nat → Nat) => True) (fun u t => po_ D cy (va_A wc H.size) (w1 u) () t) (va_A wc H.size) a) (va_A wc H.size))
    (hP : va_P D vwCl w H) (hD : va_D A w) {H0 : Heap} (hS : va_S A H0 H locs) (hA : ∀ q, H0.size ≤ q → A q) (isC isR : List Nat) (hC : isC.map (fun i => w[i]?) = wc.map some) (hR : isR.map (fun i => w[i]?) = wr.map some) (hn : va_nd isR = true) (hdis : ∀ i ∈ isR, i ∉ isC)
    (kk : ∀ (u : Nat → Nat → Nat) (H1 : Heap) (locs1 : List Loc), va_P D vwCl (wr ++ w1 u) H1 → va_D A (wr ++ w1 u) → va_S A H0 H1 locs1 → W p l e R s m args below meth c H1 locs1 (cells + mc) (slots + ms) Q (F0 m (pc + 3) ls rest)) : W p l e R s m args below meth c H locs cells slots Q (F0 m pc ls st0) := by
  have hF := va_free hD hS hA isC hC
  refine va_callv hr hS (fun q _ h => hF q h) hF (fun u t H1 locs1 ht hvm hw hB hz1 hk1 hS1 => ?_)
  obtain ⟨hP1, -, hD1⟩ := hB
  rw [ht] at hP1
  obtain ⟨hP2, hD2⟩ := va_join hP hD isC isR hC hR hn hdis hk1 hF hP1 hD1
  exact kk u H1 locs1 hP2 hD2 hS1
/-- a new row, of the class that the worlds have for its kind -/
theorem nw_a (hexec : p.tables.exec = Jvm.exec) (hb : c.code = cc) {atype : ArrayType} (harr : (Cond.arrayClass (newarray.typeOf atype)).before args s = true) {ty : FieldType} (hty : newarray.typeOf atype = ty) (t0 : Nat) (ht0 : (tyL cy)[t0]? = some (cy t0, ty)) (hobj : refKind ty = false) (hK : va_K D vwCl (tyL cy) s) (hP : va_P D vwCl w H) (hD : va_D A w) {H0 : Heap} (hS : va_S A H0 H locs) (hA : ∀ q, H0.size ≤ q → A q)
    {k : Int32} {N' : Nat} {a0 : vp_A} (ha : ∀ cA : ClassId, vp_cell cA a0 = arrV cA N' (fun _ => defaultValue ty)) (hn : ¬ k < 0) (hN : k.toNatClampNeg = N') (hbytes : N' * componentBytes ty ≤ 536870912) (hcells : cells + 1 ≤ R.cells) (hslots : slots + N' ≤ R.slots) (hdg : decode cc pc = .ok (.newarray atype, 2))
    (kk : ∀ (q : Nat) (H1 : Heap), va_P D vwCl (w ++ [(q, .inl (cy t0, a0))]) H1 → va_D A (w ++ [(q, .inl (cy t0, a0))]) → va_S A H0 H1 locs →
      W p l e R s m args below meth c H1 locs (cells + 1) (slots + N') Q (F0 m (pc + 2) ls (.ref q :: rest))) : W p l e R s m args below meth c H locs cells slots Q (F0 m pc ls (.int k :: rest)) := by
  refine va_newa hexec hb harr hty hK hP hD hS hA ha hn hN hbytes hcells hslots hdg (fun q cA H1 hK1 hP1 hD1 hS1 => ?_)
  have e1 : va_RA s cA ty := (hK1.2 3 (cA, ty) rfl).2
  have e2 : va_RA s (cy t0) ty := (hK.2 t0 (cy t0, ty) ht0).2
  have e : cA = cy t0 := by
    cases ty with
    | object C => cases hobj
    | _ => exact Option.some.inj (Eq.trans (Eq.symm e1) e2)
  subst e
  exact kk q H1 hP1 hD1 hS1
end CALLS2
/-- address rows, listed -/
def adv2 (l : List (Nat → Nat)) : Nat → Nat → Nat := fun i => l.getD i (fun _ => 0)
/-! ===== the library's own string methods, on a string constant ===== -/
def prL (q t n : Nat) (byt : List Int32) (z sz : Nat) (U : State) : Prop := U.heap.size = sz ∧ LTx q t n byt (va_A [] sz) U U.heap ∧ ZL z (va_A [] sz) U U.heap
theorem prL_blind (q t n : Nat) (byt : List Int32) (z sz : Nat) (av : List Value) : FrameBlind (va_Pc av (prL q t n byt z sz)) := fun a U g mk h => by
  obtain ⟨q0, q1, q2, q3⟩ := h
  exact ⟨q0, q1, LTx.moved (u := U) (U := U.calling g mk a) (Vm.Alike.refl U.vm) q2, ZL.moved (u := U) (U := U.calling g mk a) (Vm.Alike.refl U.vm) q3⟩
abbrev JI (l : Launch) (y : MethodName) (ws : List Cond) (rm : Room) (av : List Value) (q t n : Nat) (byt : List Int32) (z : Nat) (r : Int32) : Prop :=
  ∀ sz, Met l y ws rm (va_Pc av (prL q t n byt z sz)) (va_Qi (fun x (_ : Unit) => x = r) (fun _ _ => True) (va_A [] sz)) 0 0 (va_A [] sz)
abbrev JV (l : Launch) (y : MethodName) (ws : List Cond) (rm : Room) (av : List Value) (q t n : Nat) (byt : List Int32) (z : Nat) : Prop :=
  ∀ sz, Met l y ws rm (va_Pc av (prL q t n byt z sz)) (va_Qv (fun (_ : Unit) => True) (fun _ _ => True) (va_A [] sz)) 0 0 (va_A [] sz)
abbrev entJ (p : Program) (s : State) (m : MethodId) (args : Array Value) (c : Code) (cc : ByteArray) (maxL : Nat) (ws : List Cond) (own : String) (A : Nat → Prop) (q t n : Nat) (byt : List Int32) (z : Nat) (av : List Value) (ls : Array Slot) : Prop :=
  p.tables.exec = Jvm.exec ∧ c.code = cc ∧ c.maxLocals = maxL ∧ s.vm.findClass own = some m.cls ∧ (∀ w ∈ ws, w.before args s = true) ∧ LTx q t n byt A s s.heap ∧ ZL z A s s.heap ∧ (∀ q : Nat, s.heap.size ≤ q → A q) ∧ lv_has ls maxL (lv_args 0 av)
theorem JI.of {l : Launch} {y : MethodName} {ws ws' : List Cond} {rm : Room} {av : List Value} {q t n : Nat} {byt : List Int32} {z : Nat} {r : Int32} {cc : ByteArray} {maxL : Nat} {ty : FieldType}
    (hy : plainName y.cls = true) (hw : ws = Cond.code y cc maxL (some ty) :: ws') (hL : (lg_sl av).length ≤ maxL) (hn : narrow ty (.int r) = .int r)
    (body : ∀ (p : Program) (e : Env) (s : State) (m : MethodId) (args : Array Value) (below : List Frame) (meth : Method) (c : Code) (A : Nat → Prop) (QQ : State → Prop) (ls : Array Slot), entJ p s m args c cc maxL ws y.cls A q t n byt z av ls →
      (∀ (pc : Nat) (H : Heap) (locs : List Loc) (ls : Array Slot) (x : Int32), x = r → va_S A s.heap H locs → decode cc pc = .ok (.ireturn, 1) → W p l e rm s m args below meth c H locs 0 0 QQ (F0 m pc ls [.int x])) →
      W p l e rm s m args below meth c s.heap [] 0 0 QQ (F0 m 0 ls [])) : JI l y ws rm av q t n byt z r := by
  intro sz
  refine Met.ofW (cc := cc) (maxL := maxL) (ret := some ty) hy hw ?_
  intro p e s m args below meth c s₁ B hml hv
  obtain ⟨rfl, hsz, hT, hZ⟩ := hv
  subst hsz
  have hl := lv_entry av (n := maxL) hL
  rw [lg_entry_eq]
  generalize (lg_sl av ++ List.replicate (maxL - (lg_sl av).length) Slot.unset).toArray = ls at hl ⊢
  refine body p e s m _ below meth c (va_A [] s.heap.size) _ ls ⟨B.exec, B.bytes, hml, findClass_of_methodNamed B.named, atoms_spec (ws := ws) B.pre, hT, hZ, fun q h => Or.inr h, hl⟩ ?_
  intro pc H locs ls x hx hS hd
  have hlocks := B.notSynchronized
  subst hx
  exact W.zret (v := x) B.exec B.bytes B.returns hn (fun t ht hW => ⟨⟨x, (), rfl, rfl, trivial⟩, hS.F ht⟩) hS.2.2 hd
theorem JV.of {l : Launch} {y : MethodName} {ws ws' : List Cond} {rm : Room} {av : List Value} {q t n : Nat} {byt : List Int32} {z : Nat} {cc : ByteArray} {maxL : Nat}
    (hy : plainName y.cls = true) (hw : ws = Cond.code y cc maxL none :: ws') (hL : (lg_sl av).length ≤ maxL)
    (body : ∀ (p : Program) (e : Env) (s : State) (m : MethodId) (args : Array Value) (below : List Frame) (meth : Method) (c : Code) (A : Nat → Prop) (QQ : State → Prop) (ls : Array Slot), entJ p s m args c cc maxL ws y.cls A q t n byt z av ls →
      (∀ (pc : Nat) (H : Heap) (locs : List Loc) (ls : Array Slot), va_S A s.heap H locs → decode cc pc = .ok (.return_, 1) → W p l e rm s m args below meth c H locs 0 0 QQ (F0 m pc ls [])) →
      W p l e rm s m args below meth c s.heap [] 0 0 QQ (F0 m 0 ls [])) : JV l y ws rm av q t n byt z := by
  intro sz
  refine Met.ofW (cc := cc) (maxL := maxL) (ret := none) hy hw ?_
  intro p e s m args below meth c s₁ B hml hv
  obtain ⟨rfl, hsz, hT, hZ⟩ := hv
  subst hsz
  have hl := lv_entry av (n := maxL) hL
  rw [lg_entry_eq]
  generalize (lg_sl av ++ List.replicate (maxL - (lg_sl av).length) Slot.unset).toArray = ls at hl ⊢
  refine body p e s m _ below meth c (va_A [] s.heap.size) _ ls ⟨B.exec, B.bytes, hml, findClass_of_methodNamed B.named, atoms_spec (ws := ws) B.pre, hT, hZ, fun q h => Or.inr h, hl⟩ ?_
  intro pc H locs ls hS hd
  have hlocks := B.notSynchronized
  exact W.vret B.exec B.bytes B.returns (fun t ht hW => ⟨⟨(), rfl, trivial, trivial⟩, hS.F ht⟩) hS.2.2 hd
section CALLSJ
variable {p : Program} {l : Launch} {e : Env} {R : Room} {s : State} {m : MethodId} {args : Array Value} {below : List Frame} {meth : Method} {c : Code} {H : Heap} {locs : List Loc} {cells slots : Nat} {Q : State → Prop}
variable {y : MethodName} {bytes cc : ByteArray} {maxL nL k index : Nat} {ret : Option FieldType} {ws : List Cond} {rm : Room} {Ts : List Cond} {own : String} {As rest st0 : List Value}
variable {pc : Nat} {ls : Array Slot} {A : Nat → Prop} {q t n z : Nat} {byt : List Int32}
theorem ja_pre (hT : LTx q t n byt A s s.heap) (hZ : ZL z A s s.heap) (hS : va_S A s.heap H locs) (hA : ∀ q, s.heap.size ≤ q → A q) (av : List Value) :
    ∀ U : State, U.heap = H → s.WarmedH U.vm → va_Pc av (prL q t n byt z H.size) av.toArray U := by
  intro U hU hW
  have hB : ∀ x, va_A [] H.size x → A x := fun x hx => by
    rcases hx with ⟨j, e, hj⟩ | hx
    · cases hj
    · exact hA x (Nat.le_trans hS.1 hx)
  refine ⟨rfl, by rw [hU], ?_, ?_⟩
  · rw [hU]; exact ((hT.kept hS.2.1).narrow hB).moved hW.alike
  · rw [hU]; exact ((hZ.kept hS.2.1).narrow hB).moved hW.alike
theorem ja_free (hS : va_S A s.heap H locs) (hA : ∀ q, s.heap.size ≤ q → A q) : ∀ x, va_A [] H.size x → A x := fun x hx => by
  rcases hx with ⟨j, e, hj⟩ | hx
  · cases hj
  · exact hA x (Nat.le_trans hS.1 hx)
/-- a call of such a method, virtual on the constant itself -/
theorem ja_V {r : Int32} (F : CallFix p m c cc nL s args Ts own) (hM : JI l y ws rm (.ref q :: As) q t n byt z r) (cw : CallW R s args own "java/lang/String" index y bytes maxL ret ws rm 0 0 k) (hT : LTx q t n byt A s s.heap) (hZ : ZL z A s s.heap) (hS : va_S A s.heap H locs) (hA : ∀ q, s.heap.size ≤ q → A q)
    (hl : As.length = k) (hsize : ls.size = nL) (hstack : st0 = As.reverse ++ .ref q :: rest) (hW : (rest.map fun v => v.category).sum ≤ 8) (hdg : decode cc pc = .ok (.invokevirtual index, 3)) (hf : cells ≤ R.cells ∧ slots ≤ R.slots)
    (kk : ∀ (H1 : Heap) (locs1 : List Loc), (∀ x : Nat, x < H.size → H1[x]? = H[x]?) → va_S A s.heap H1 locs1 → W p l e R s m args below meth c H1 locs1 cells slots Q (F0 m (pc + 3) ls (.int r :: rest))) : W p l e R s m args below meth c H locs cells slots Q (F0 m pc ls st0) := by
  have hF := ja_free hS hA
  obtain ⟨cell, h1, h2, h3, h4⟩ := hT.1
  have hrec : ∃ cellB : Cell, H[q]? = some cellB ∧ cellB.vm.isStatics = false ∧ s.vm.findClass "java/lang/String" = some cellB.cls := ⟨cell, (hS.2.1 q (Array.getElem?_eq_some_iff.mp h1).1 h4).trans h1, h2, h3⟩
  refine va_calli (va_runV F (hM H.size) cw ⟨prL_blind q t n byt z H.size _, hrec, ja_pre hT hZ hS hA _⟩ rfl hl hsize hstack (lv_room hW) hdg hf) hS (fun x _ h => hF x h) hF (fun x u t H1 locs1 ht hvm hw hB hz1 hk1 hS1 => ?_)
  subst hw
  exact kk H1 locs1 (fun x hx => hk1 x hx (fun ha => by
    rcases ha with ⟨j, e, hj⟩ | ha
    · cases hj
    · omega)) hS1
theorem ja_S {r : Int32} (F : CallFix p m c cc nL s args Ts own) (hM : JI l y ws rm As q t n byt z r) (cw : CallB R s args own index y bytes maxL ret ws rm 0 0 k ∧ (Cond.static y).before args s = true) (hT : LTx q t n byt A s s.heap) (hZ : ZL z A s s.heap) (hS : va_S A s.heap H locs) (hA : ∀ q, s.heap.size ≤ q → A q)
    (hl : As.length = k) (hsize : ls.size = nL) (hstack : st0 = As.reverse ++ rest) (hW : (rest.map fun v => v.category).sum ≤ 8) (hdg : decode cc pc = .ok (.invokestatic index, 3)) (hf : cells ≤ R.cells ∧ slots ≤ R.slots)
    (kk : ∀ (H1 : Heap) (locs1 : List Loc), va_S A s.heap H1 locs1 → W p l e R s m args below meth c H1 locs1 cells slots Q (F0 m (pc + 3) ls (.int r :: rest))) : W p l e R s m args below meth c H locs cells slots Q (F0 m pc ls st0) := by
  have hF := ja_free hS hA
  refine va_calli (va_runS F (hM H.size) cw ⟨prL_blind q t n byt z H.size _, ja_pre hT hZ hS hA _⟩ rfl hl hsize hstack (lv_room hW) hdg hf) hS (fun x _ h => hF x h) hF (fun x u t H1 locs1 ht hvm hw hB hz1 hk1 hS1 => ?_)
  subst hw
  exact kk H1 locs1 hS1
theorem ja_Sv (F : CallFix p m c cc nL s args Ts own) (hM : JV l y ws rm As q t n byt z) (cw : CallB R s args own index y bytes maxL ret ws rm 0 0 k ∧ (Cond.static y).before args s = true) (hT : LTx q t n byt A s s.heap) (hZ : ZL z A s s.heap) (hS : va_S A s.heap H locs) (hA : ∀ q, s.heap.size ≤ q → A q)
    (hl : As.length = k) (hsize : ls.size = nL) (hstack : st0 = As.reverse ++ rest) (hW : (rest.map fun v => v.category).sum ≤ 8) (hdg : decode cc pc = .ok (.invokestatic index, 3)) (hf : cells ≤ R.cells ∧ slots ≤ R.slots)
    (kk : ∀ (H1 : Heap) (locs1 : List Loc), va_S A s.heap H1 locs1 → W p l e R s m args below meth c H1 locs1 cells slots Q (F0 m (pc + 3) ls rest)) : W p l e R s m args below meth c H locs cells slots Q (F0 m pc ls st0) := by
  have hF := ja_free hS hA
  refine va_callv (va_runS F (hM H.size) cw ⟨prL_blind q t n byt z H.size _, ja_pre hT hZ hS hA _⟩ rfl hl hsize hstack (lv_room hW) hdg hf) hS (fun x _ h => hF x h) hF (fun u t H1 locs1 ht hvm hw hB hz1 hk1 hS1 => ?_)
  exact kk H1 locs1 hS1
end CALLSJ
