/-! ===== the nest mates' links, contracts and calls ===== -/
def nwF : List (String × Nat × String × String × String × String) := [("KneeBench$BenchText", 95, "KneeBench$Bench", "names", "[J", "KneeBench"), ("KneeBench$BenchText", 110, "KneeBench$Bench", "lags", "[I", "KneeBench"), ("KneeBench", 218, "KneeBench$Bench", "lags", "[I", "KneeBench"), ("KneeBench$BenchText", 117, "KneeBench$Bench", "fails", "[I", "KneeBench"), ("KneeBench", 221, "KneeBench$Bench", "fails", "[I", "KneeBench"), ("KneeBench$BenchText", 120, "KneeBench$Bench", "falses", "[I", "KneeBench"), ("KneeBench$Life", 115, "KneeBench$Bench", "falses", "[I", "KneeBench"), ("KneeBench", 224, "KneeBench$Bench", "falses", "[I", "KneeBench"), ("KneeBench$BenchText", 126, "KneeBench$Bench", "cures", "[I", "KneeBench"), ("KneeBench$Life", 112, "KneeBench$Bench", "cures", "[I", "KneeBench"), ("KneeBench", 234, "KneeBench$Bench", "cures", "[I", "KneeBench"), ("KneeBench$Life", 84, "KneeBench$Bench", "weights", "[I", "KneeBench"), ("KneeBench", 237, "KneeBench$Bench", "weights", "[I", "KneeBench"), ("KneeBench", 240, "KneeBench$Bench", "twinges", "[J", "KneeBench"), ("KneeBench$Seats", 22, "KneeBench$Bench", "farmers", "I", "KneeBench"), ("KneeBench$BenchText", 78, "KneeBench$Bench", "farmers", "I", "KneeBench"), ("KneeBench", 178, "KneeBench$Bench", "farmers", "I", "KneeBench"), ("KneeBench$Life", 97, "KneeBench$Bench", "days", "I", "KneeBench"), ("KneeBench$BenchText", 146, "KneeBench$Bench", "days", "I", "KneeBench"), ("KneeBench", 197, "KneeBench$Bench", "days", "I", "KneeBench"), ("KneeBench", 200, "KneeBench$Bench", "wet", "J", "KneeBench"), ("KneeBench", 209, "KneeBench$Bench", "hail", "J", "KneeBench"), ("KneeBench$BenchText", 167, "KneeBench$Bench", "vote", "I", "KneeBench"), ("KneeBench", 212, "KneeBench$Bench", "vote", "I", "KneeBench"), ("KneeBench$BenchText", 123, "KneeBench$Bench", "elbows", "I", "KneeBench"), ("KneeBench$Life", 49, "KneeBench$Season", "kinds", "[I", "KneeBench"), ("KneeBench$SeasonText", 77, "KneeBench$Season", "kinds", "[I", "KneeBench"), ("KneeBench$Life", 87, "KneeBench$Season", "farmers", "[I", "KneeBench"), ("KneeBench$SeasonText", 127, "KneeBench$Season", "farmers", "[I", "KneeBench"), ("KneeBench$Life", 90, "KneeBench$Season", "signs", "[I", "KneeBench"), ("KneeBench$SeasonText", 115, "KneeBench$Season", "signs", "[I", "KneeBench"), ("KneeBench$Life", 67, "KneeBench$Season", "numbers", "[I", "KneeBench"), ("KneeBench$SeasonText", 121, "KneeBench$Season", "numbers", "[I", "KneeBench"), ("KneeBench$SeasonText", 80, "KneeBench$Season", "partners", "[I", "KneeBench"), ("KneeBench$Life", 64, "KneeBench$Season", "partners", "[I", "KneeBench"), ("KneeBench$Life", 44, "KneeBench$Season", "size", "I", "KneeBench"), ("KneeBench$SeasonText", 74, "KneeBench$Season", "size", "I", "KneeBench"), ("KneeBench$SeasonText", 89, "KneeBench$Season", "steps", "I", "KneeBench"), ("KneeBench", 188, "KneeBench$Season", "steps", "I", "KneeBench"), ("KneeBench$SeasonText", 67, "KneeBench$Season", "isThere", "Z", "KneeBench"), ("KneeBench", 391, "KneeBench$Season", "isThere", "Z", "KneeBench"), ("KneeBench", 150, "KneeBench$Trays", "sorts", "[I", "KneeBench"), ("KneeBench", 161, "KneeBench$Tokens", "filled", "I", "KneeBench"), ("KneeBench$BenchText", 152, "KneeBench$Tokens", "place", "I", "KneeBench"), ("KneeBench$BenchText", 149, "KneeBench$Tokens", "behind", "I", "KneeBench"), ("KneeBench$BenchText", 87, "KneeBench$Tokens", "word", "J", "KneeBench"), ("KneeBench$SeasonText", 49, "KneeBench$Tokens", "keyword", "I", "KneeBench"), ("KneeBench$BenchText", 51, "KneeBench$Tokens", "keyword", "I", "KneeBench"), ("KneeBench$SeasonText", 118, "KneeBench$Tokens", "value", "I", "KneeBench"), ("KneeBench$BenchText", 114, "KneeBench$Tokens", "number", "I", "KneeBench"), ("KneeBench$SeasonText", 124, "KneeBench$Tokens", "number", "I", "KneeBench"), ("KneeBench$BenchText", 133, "KneeBench$Tokens", "farmer", "I", "KneeBench"), ("KneeBench$SeasonText", 130, "KneeBench$Tokens", "farmer", "I", "KneeBench"), ("KneeBench", 191, "KneeBench$Tokens", "fault", "I", "KneeBench"), ("KneeBench", 194, "KneeBench$Tokens", "faultPlace", "I", "KneeBench"), ("KneeBench", 399, "KneeBench$Life", "steps", "I", "KneeBench"), ("KneeBench", 400, "KneeBench$Life", "missed", "I", "KneeBench"), ("KneeBench", 403, "KneeBench$Life", "newDays", "I", "KneeBench"), ("KneeBench", 406, "KneeBench$Life", "wetDays", "I", "KneeBench"), ("KneeBench", 409, "KneeBench$Life", "isCut", "Z", "KneeBench"), ("KneeBench", 348, "KneeBench$Seats", "row", "[I", "KneeBench"), ("KneeBench", 345, "KneeBench$Seats", "taken", "I", "KneeBench")]
def nwM : List (String × Nat × MethodName × String) := [("KneeBench", 9, ⟨"KneeBench$Bench", "<init>", "()V"⟩, "KneeBench"), ("KneeBench", 18, ⟨"KneeBench$Season", "<init>", "()V"⟩, "KneeBench"), ("KneeBench", 31, ⟨"KneeBench$Mark", "<init>", "()V"⟩, "KneeBench"), ("KneeBench$Mark", 9, ⟨"KneeBench$Bench", "<init>", "()V"⟩, "KneeBench"), ("KneeBench$Mark", 18, ⟨"KneeBench$Season", "<init>", "()V"⟩, "KneeBench"), ("KneeBench", 76, ⟨"KneeBench$Life", "<init>", "()V"⟩, "KneeBench"), ("KneeBench$Life", 11, ⟨"KneeBench$Draws", "<init>", "()V"⟩, "KneeBench"), ("KneeBench", 86, ⟨"KneeBench$Draws", "<init>", "()V"⟩, "KneeBench"), ("KneeBench", 93, ⟨"KneeBench$Seats", "<init>", "()V"⟩, "KneeBench"), ("KneeBench$BenchText", 102, ⟨"KneeBench", "bit", "(Z)I"⟩, "KneeBench"), ("KneeBench$Tokens", 95, ⟨"KneeBench", "outside", "(III)Z"⟩, "KneeBench"), ("KneeBench$BenchText", 163, ⟨"KneeBench", "outside", "(III)Z"⟩, "KneeBench"), ("KneeBench$Bench", 87, ⟨"KneeBench", "later", "(JI)J"⟩, "KneeBench"), ("KneeBench$Bench", 71, ⟨"KneeBench", "firstDays", "(I)J"⟩, "KneeBench"), ("KneeBench$Bench", 133, ⟨"KneeBench", "bit", "(Z)I"⟩, "KneeBench"), ("KneeBench$Life", 52, ⟨"KneeBench", "bit", "(Z)I"⟩, "KneeBench")]
abbrev nwFc (q : String × Nat × String × String × String × String) : Cond := .fieldLinkNest q.1 q.2.1 q.2.2.1 q.2.2.2.1 q.2.2.2.2.1 q.2.2.2.2.2
abbrev nwMc (q : String × Nat × MethodName × String) : Cond := .methodLinkNest q.1 q.2.1 q.2.2.1 q.2.2.2
/-- the links to nest mates' private members -/
def NW (U : State) : Prop := (∀ q ∈ nwF, va_Nw (nwFc q) U) ∧ ∀ q ∈ nwM, va_Nw (nwMc q) U
theorem NW.warm {s U : State} (hW : s.WarmedH U.vm) (h : NW s) : NW U := ⟨fun q hq => va_Nw.warmF hW (h.1 q hq), fun q hq => va_Nw.warmM hW (h.2 q hq)⟩
theorem NW.same {u U : State} (e : u.vm = U.vm) (h : NW u) : NW U := ⟨fun q hq => va_Nw.same rfl e (h.1 q hq), fun q hq => va_Nw.same rfl e (h.2 q hq)⟩
theorem NW.fld {s : State} (h : NW s) (i : Nat) {q : String × Nat × String × String × String × String} (hq : nwF[i]? = some q) (args : Array Value) : (nwFc q).before args s = true := va_Nw.use rfl (h.1 q (List.mem_of_getElem? hq))
theorem NW.met {s : State} (h : NW s) (i : Nat) {q : String × Nat × MethodName × String} (hq : nwM[i]? = some q) : va_Nw (nwMc q) s := h.2 q (List.mem_of_getElem? hq)
/-- the world before and behind a call -/
def pr_ (D : va_G) (cy : Nat → ClassId) (w : va_W) (sz : Nat) (U : State) : Prop := U.heap.size = sz ∧ va_P D vwCl w U.heap ∧ va_K D vwCl (tyL cy) U ∧ va_D (fun _ => True) w ∧ NW U
def po_ (D : va_G) (cy : Nat → ClassId) (A : Nat → Prop) (w : va_W) (_ : Unit) (t : State) : Prop := va_P D vwCl w t.heap ∧ va_K D vwCl (tyL cy) t ∧ va_D A w
theorem pr_blind (D : va_G) (cy : Nat → ClassId) (w : va_W) (sz : Nat) (av : List Value) : FrameBlind (va_Pc av (pr_ D cy w sz)) := fun a U g mk q => by
  obtain ⟨q0, q1, qP, qK, qD, qN⟩ := q
  exact ⟨q0, q1, qP, va_K.moved (u := U) (U := U.calling g mk a) (Vm.Alike.refl U.vm) qK, qD, NW.same (u := U) rfl qN⟩
/-- contracts: a method makes nothing, answers r, and turns the world w0 into w1 -/
abbrev CI (l : Launch) (D : va_G) (cy : Nat → ClassId) (y : MethodName) (ws : List Cond) (rm : Room) (av : List Value) (w0 w1 : va_W) (r : Int32) : Prop :=
  ∀ sz, Met l y ws rm (va_Pc av (pr_ D cy w0 sz)) (va_Qi (fun x (_ : Unit) => x = r) (po_ D cy (va_A w0 sz) w1) (va_A w0 sz)) 0 0 (va_A w0 sz)
abbrev CZ (l : Launch) (D : va_G) (cy : Nat → ClassId) (y : MethodName) (ws : List Cond) (rm : Room) (av : List Value) (w0 w1 : va_W) (r : Int32) : Prop :=
  ∀ sz, Met l y ws rm (va_Pc av (pr_ D cy w0 sz)) (va_Qi (fun x (_ : Unit) => x = r ∧ isb r = true) (po_ D cy (va_A w0 sz) w1) (va_A w0 sz)) 0 0 (va_A w0 sz)
abbrev CL (l : Launch) (D : va_G) (cy : Nat → ClassId) (y : MethodName) (ws : List Cond) (rm : Room) (av : List Value) (w0 w1 : va_W) (r : Int64) : Prop :=
  ∀ sz, Met l y ws rm (va_Pc av (pr_ D cy w0 sz)) (va_Ql (fun x (_ : Unit) => x = r) (po_ D cy (va_A w0 sz) w1) (va_A w0 sz)) 0 0 (va_A w0 sz)
abbrev CV (l : Launch) (D : va_G) (cy : Nat → ClassId) (y : MethodName) (ws : List Cond) (rm : Room) (av : List Value) (w0 w1 : va_W) : Prop :=
  ∀ sz, Met l y ws rm (va_Pc av (pr_ D cy w0 sz)) (va_Qv (fun (_ : Unit) => True) (po_ D cy (va_A w0 sz) w1) (va_A w0 sz)) 0 0 (va_A w0 sz)
/-- what a method's walk begins with -/
abbrev ent (p : Program) (s : State) (m : MethodId) (args : Array Value) (c : Code) (cc : ByteArray) (maxL : Nat) (ws : List Cond) (own : String) (D : va_G) (cy : Nat → ClassId) (A : Nat → Prop) (w0 : va_W) (av : List Value) (ls : Array Slot) : Prop :=
  p.tables.exec = Jvm.exec ∧ c.code = cc ∧ c.maxLocals = maxL ∧ s.vm.findClass own = some m.cls ∧ (∀ w ∈ ws, w.before args s = true) ∧ va_K D vwCl (tyL cy) s ∧ NW s ∧ va_P D vwCl w0 s.heap ∧ va_D A w0 ∧ (∀ q : Nat, s.heap.size ≤ q → A q) ∧ lv_has ls maxL (lv_args 0 av)
theorem CI.of {l : Launch} {D : va_G} {cy : Nat → ClassId} {y : MethodName} {ws ws' : List Cond} {rm : Room} {av : List Value} {w0 w1 : va_W} {r : Int32} {cc : ByteArray} {maxL : Nat}
    (hy : plainName y.cls = true) (hw : ws = Cond.code y cc maxL (some .int) :: ws') (hL : (lg_sl av).length ≤ maxL)
    (body : ∀ (p : Program) (e : Env) (s : State) (m : MethodId) (args : Array Value) (below : List Frame) (meth : Method) (c : Code) (A : Nat → Prop) (QQ : State → Prop) (ls : Array Slot), ent p s m args c cc maxL ws y.cls D cy A w0 av ls →
      (∀ (pc : Nat) (H : Heap) (locs : List Loc) (ls : Array Slot) (x : Int32), x = r → va_P D vwCl w1 H → va_D A w1 → va_S A s.heap H locs → decode cc pc = .ok (.ireturn, 1) → W p l e rm s m args below meth c H locs 0 0 QQ (F0 m pc ls [.int x])) →
      W p l e rm s m args below meth c s.heap [] 0 0 QQ (F0 m 0 ls [])) : CI l D cy y ws rm av w0 w1 r := by
  intro sz
  refine Met.ofW (cc := cc) (maxL := maxL) (ret := some .int) hy hw ?_
  intro p e s m args below meth c s₁ B hml hv
  obtain ⟨rfl, hsz, hP, hK, hD0, hN⟩ := hv
  subst hsz
  have hl := lv_entry av (n := maxL) hL
  rw [lg_entry_eq]
  generalize (lg_sl av ++ List.replicate (maxL - (lg_sl av).length) Slot.unset).toArray = ls at hl ⊢
  refine body p e s m _ below meth c (va_A w0 s.heap.size) _ ls ⟨B.exec, B.bytes, hml, findClass_of_methodNamed B.named, atoms_spec (ws := ws) B.pre, hK, hN, hP, hD0.self, fun q h => Or.inr h, hl⟩ ?_
  intro pc H locs ls x hx hP hD hS hd
  have hlocks := B.notSynchronized
  exact W.iret (v := x) B.exec B.bytes B.returns (fun t ht hW => ⟨⟨x, (), rfl, hx, by rw [ht]; exact hP, va_K.moved hW.alike hK, hD⟩, hS.F ht⟩) hS.2.2 hd
theorem CZ.of {l : Launch} {D : va_G} {cy : Nat → ClassId} {y : MethodName} {ws ws' : List Cond} {rm : Room} {av : List Value} {w0 w1 : va_W} {r : Int32} {cc : ByteArray} {maxL : Nat}
    (hy : plainName y.cls = true) (hw : ws = Cond.code y cc maxL (some .boolean) :: ws') (hL : (lg_sl av).length ≤ maxL)
    (body : ∀ (p : Program) (e : Env) (s : State) (m : MethodId) (args : Array Value) (below : List Frame) (meth : Method) (c : Code) (A : Nat → Prop) (QQ : State → Prop) (ls : Array Slot), ent p s m args c cc maxL ws y.cls D cy A w0 av ls →
      (∀ (pc : Nat) (H : Heap) (locs : List Loc) (ls : Array Slot) (x : Int32), x = r → va_P D vwCl w1 H → va_D A w1 → va_S A s.heap H locs → isb x = true → decode cc pc = .ok (.ireturn, 1) → W p l e rm s m args below meth c H locs 0 0 QQ (F0 m pc ls [.int x])) →
      W p l e rm s m args below meth c s.heap [] 0 0 QQ (F0 m 0 ls [])) : CZ l D cy y ws rm av w0 w1 r := by
  intro sz
  refine Met.ofW (cc := cc) (maxL := maxL) (ret := some .boolean) hy hw ?_
  intro p e s m args below meth c s₁ B hml hv
  obtain ⟨rfl, hsz, hP, hK, hD0, hN⟩ := hv
  subst hsz
  have hl := lv_entry av (n := maxL) hL
  rw [lg_entry_eq]
  generalize (lg_sl av ++ List.replicate (maxL - (lg_sl av).length) Slot.unset).toArray = ls at hl ⊢
  refine body p e s m _ below meth c (va_A w0 s.heap.size) _ ls ⟨B.exec, B.bytes, hml, findClass_of_methodNamed B.named, atoms_spec (ws := ws) B.pre, hK, hN, hP, hD0.self, fun q h => Or.inr h, hl⟩ ?_
  intro pc H locs ls x hx hP hD hS hz hd
  have hlocks := B.notSynchronized
  exact W.zret (v := x) B.exec B.bytes B.returns (isb_nar hz) (fun t ht hW => ⟨⟨x, (), rfl, ⟨hx, hx ▸ hz⟩, by rw [ht]; exact hP, va_K.moved hW.alike hK, hD⟩, hS.F ht⟩) hS.2.2 hd
theorem CL.of {l : Launch} {D : va_G} {cy : Nat → ClassId} {y : MethodName} {ws ws' : List Cond} {rm : Room} {av : List Value} {w0 w1 : va_W} {r : Int64} {cc : ByteArray} {maxL : Nat}
    (hy : plainName y.cls = true) (hw : ws = Cond.code y cc maxL (some .long) :: ws') (hL : (lg_sl av).length ≤ maxL)
    (body : ∀ (p : Program) (e : Env) (s : State) (m : MethodId) (args : Array Value) (below : List Frame) (meth : Method) (c : Code) (A : Nat → Prop) (QQ : State → Prop) (ls : Array Slot), ent p s m args c cc maxL ws y.cls D cy A w0 av ls →
      (∀ (pc : Nat) (H : Heap) (locs : List Loc) (ls : Array Slot) (x : Int64), x = r → va_P D vwCl w1 H → va_D A w1 → va_S A s.heap H locs → decode cc pc = .ok (.lreturn, 1) → W p l e rm s m args below meth c H locs 0 0 QQ (F0 m pc ls [.long x])) →
      W p l e rm s m args below meth c s.heap [] 0 0 QQ (F0 m 0 ls [])) : CL l D cy y ws rm av w0 w1 r := by
  intro sz
  refine Met.ofW (cc := cc) (maxL := maxL) (ret := some .long) hy hw ?_
  intro p e s m args below meth c s₁ B hml hv
  obtain ⟨rfl, hsz, hP, hK, hD0, hN⟩ := hv
  subst hsz
  have hl := lv_entry av (n := maxL) hL
  rw [lg_entry_eq]
  generalize (lg_sl av ++ List.replicate (maxL - (lg_sl av).length) Slot.unset).toArray = ls at hl ⊢
  refine body p e s m _ below meth c (va_A w0 s.heap.size) _ ls ⟨B.exec, B.bytes, hml, findClass_of_methodNamed B.named, atoms_spec (ws := ws) B.pre, hK, hN, hP, hD0.self, fun q h => Or.inr h, hl⟩ ?_
  intro pc H locs ls x hx hP hD hS hd
  have hlocks := B.notSynchronized
  exact W.lret (v := x) B.exec B.bytes B.returns (fun t ht hW => ⟨⟨x, (), rfl, hx, by rw [ht]; exact hP, va_K.moved hW.alike hK, hD⟩, hS.F ht⟩) hS.2.2 hd
theorem CV.of {l : Launch} {D : va_G} {cy : Nat → ClassId} {y : MethodName} {ws ws' : List Cond} {rm : Room} {av : List Value} {w0 w1 : va_W} {cc : ByteArray} {maxL : Nat}
    (hy : plainName y.cls = true) (hw : ws = Cond.code y cc maxL none :: ws') (hL : (lg_sl av).length ≤ maxL)
    (body : ∀ (p : Program) (e : Env) (s : State) (m : MethodId) (args : Array Value) (below : List Frame) (meth : Method) (c : Code) (A : Nat → Prop) (QQ : State → Prop) (ls : Array Slot), ent p s m args c cc maxL ws y.cls D cy A w0 av ls →
      (∀ (pc : Nat) (H : Heap) (locs : List Loc) (ls : Array Slot), va_P D vwCl w1 H → va_D A w1 → va_S A s.heap H locs → decode cc pc = .ok (.return_, 1) → W p l e rm s m args below meth c H locs 0 0 QQ (F0 m pc ls [])) →
      W p l e rm s m args below meth c s.heap [] 0 0 QQ (F0 m 0 ls [])) : CV l D cy y ws rm av w0 w1 := by
  intro sz
  refine Met.ofW (cc := cc) (maxL := maxL) (ret := none) hy hw ?_
  intro p e s m args below meth c s₁ B hml hv
  obtain ⟨rfl, hsz, hP, hK, hD0, hN⟩ := hv
  subst hsz
  have hl := lv_entry av (n := maxL) hL
  rw [lg_entry_eq]
  generalize (lg_sl av ++ List.replicate (maxL - (lg_sl av).length) Slot.unset).toArray = ls at hl ⊢
  refine body p e s m _ below meth c (va_A w0 s.heap.size) _ ls ⟨B.exec, B.bytes, hml, findClass_of_methodNamed B.named, atoms_spec (ws := ws) B.pre, hK, hN, hP, hD0.self, fun q h => Or.inr h, hl⟩ ?_
  intro pc H locs ls hP hD hS hd
  have hlocks := B.notSynchronized
  exact W.vret B.exec B.bytes B.returns (fun t ht hW => ⟨⟨(), rfl, trivial, by rw [ht]; exact hP, va_K.moved hW.alike hK, hD⟩, hS.F ht⟩) hS.2.2 hd
/-- cells put in at their places -/
def putAt : va_W → List Nat → va_W → va_W
  | w, i :: is, x :: xs => putAt (w.set i x) is xs
  | w, [], _ => w
  | w, _ :: _, [] => w
theorem putAt_spec : ∀ (is : List Nat) (xs w : va_W), is.length = xs.length → ∀ (k : Nat) (q : Nat × va_E), (putAt w is xs)[k]? = some q → (∃ j : Nat, is[j]? = some k ∧ xs[j]? = some q) ∨ (k ∉ is ∧ w[k]? = some q) := by
  intro is
  induction is with
  | nil => intro xs w _ k q h; exact Or.inr ⟨List.not_mem_nil, by cases xs <;> exact h⟩
  | cons i is ih =>
    intro xs w hlen k q h
    cases xs with
    | nil => cases hlen
    | cons x xs =>
      rcases ih xs (w.set i x) (Nat.succ.inj hlen) k q h with ⟨j, h1, h2⟩ | ⟨h1, h2⟩
      · exact Or.inl ⟨j + 1, h1, h2⟩
      · by_cases e : i = k
        · subst e
          rw [List.getElem?_set] at h2
          rw [if_pos rfl] at h2
          split at h2
          · exact Or.inl ⟨0, rfl, h2⟩
          · cases h2
        · rw [List.getElem?_set, if_neg e] at h2
          exact Or.inr ⟨fun hm => by rcases List.mem_cons.mp hm with z | z; exact e z.symm; exact h1 z, h2⟩
theorem va_D_fst {A : Nat → Prop} {w w' : va_W} (h : va_D A w) (e : w'.map Prod.fst = w.map Prod.fst) : va_D A w' := by
  have key : ∀ (k : Nat) (q : Nat × va_E), w'[k]? = some q → ∃ q2 : Nat × va_E, w[k]? = some q2 ∧ q2.1 = q.1 := by
    intro k q hk
    have h1 : (w'.map Prod.fst)[k]? = some q.1 := by rw [List.getElem?_map, hk]; rfl
    rw [e, List.getElem?_map] at h1
    cases h2 : w[k]? with
    | none => rw [h2] at h1; cases h1
    | some q2 => rw [h2] at h1; exact ⟨q2, rfl, Option.some.inj h1⟩
  refine ⟨fun i j x y hi hj hxy => ?_, fun k q hk => ?_⟩
  · obtain ⟨x2, a1, a2⟩ := key i x hi
    obtain ⟨y2, b1, b2⟩ := key j y hj
    exact h.1 i j x2 y2 a1 b1 (by rw [a2, b2, hxy])
  · obtain ⟨x2, a1, a2⟩ := key k q hk
    rw [← a2]; exact h.2 k x2 a1
section CALLS
variable {p : Program} {l : Launch} {e : Env} {R : Room} {s : State} {m : MethodId} {args : Array Value} {below : List Frame} {meth : Method} {c : Code} {H : Heap} {locs : List Loc} {cells slots : Nat} {Q : State → Prop}
variable {y : MethodName} {bytes cc : ByteArray} {maxL nL n index : Nat} {ret : Option FieldType} {ws : List Cond} {rm : Room} {Ts : List Cond} {own C host : String} {b : Nat} {As rest st0 : List Value}
variable {pc : Nat} {ls : Array Slot} {D : va_G} {cy : Nat → ClassId} {A : Nat → Prop} {H0 : Heap} {w wc w1 w' : va_W}
/-- the places: the callee's cells, and the new world -/
abbrev plc (w wc w1 w' : va_W) (isC : List Nat) : Prop :=
  isC.map (fun i => w[i]?) = wc.map some ∧ isC.length = w1.length ∧ putAt w isC w1 = w' ∧ w'.map Prod.fst = w.map Prod.fst
theorem ca_pre (hK : va_K D vwCl (tyL cy) s) (hN : NW s) (hP : va_P D vwCl w H) (hD : va_D A w) (isC : List Nat) (hC : isC.map (fun i => w[i]?) = wc.map some) (hn : va_nd isC = true) (av : List Value) :
    ∀ U : State, U.heap = H → s.WarmedH U.vm → va_Pc av (pr_ D cy wc H.size) av.toArray U := by
  intro U hU hW
  refine ⟨rfl, by rw [hU], ?_, va_K.moved hW.alike hK, (hD.sub isC hn hC).weaken (fun _ _ _ _ => trivial), NW.warm hW hN⟩
  rw [hU]
  intro k q hk
  have h1 : (wc.map some)[k]? = some (some q) := by rw [List.getElem?_map, hk]; rfl
  rw [← hC, List.getElem?_map] at h1
  cases hi : isC[k]? with
  | none => rw [hi] at h1; cases h1
  | some i =>
    rw [hi] at h1
    exact hP i q (Option.some.inj h1)
theorem ca_post (hP : va_P D vwCl w H) (hD : va_D A w) {isC : List Nat} (pl : plc w wc w1 w' isC) {t : State} {H1 : Heap} (ht : t.heap = H1) (hB : po_ D cy (va_A wc H.size) w1 () t) (hk1 : ∀ q : Nat, q < H.size → ¬ va_A wc H.size q → H1[q]? = H[q]?) : va_P D vwCl w' H1 ∧ va_D A w' := by
  obtain ⟨hC, hlen, hW, hfst⟩ := pl
  obtain ⟨hP1, -, hD1⟩ := hB
  rw [ht] at hP1
  refine ⟨fun k q hk => ?_, va_D_fst hD hfst⟩
  rw [← hW] at hk
  rcases putAt_spec isC w1 w hlen k q hk with ⟨j, h1, h2⟩ | ⟨h1, h2⟩
  · exact hP1 j q h2
  · have hlt := (hP k q h2).lt
    refine (hP k q h2).kept (hk1 q.1 hlt (fun ha => ?_))
    rcases ha with ⟨k2, e, h3⟩ | h3
    · have h4 : (isC.map (fun i => w[i]?))[k2]? = some (some (q.1, e)) := by rw [hC, List.getElem?_map, h3]; rfl
      rw [List.getElem?_map] at h4
      cases h5 : isC[k2]? with
      | none => rw [h5] at h4; cases h4
      | some i =>
        rw [h5] at h4
        have h6 := hD.1 k i q (q.1, e) h2 (Option.some.inj h4) rfl
        subst h6
        exact h1 (List.mem_of_getElem? h5)
    · omega
theorem ca_i {r : Int32} {a : Array Value} (hr : va_Run p l e R s m args below meth c H locs cells slots 0 0 (F0 m pc ls st0) rest (va_Qi (fun x (_ : Unit) => x = r) (po_ D cy (va_A wc H.size) w1) (va_A wc H.size) a) (va_A wc H.size))
    (hP : va_P D vwCl w H) (hD : va_D A w) (hS : va_S A H0 H locs) (hA : ∀ q, H0.size ≤ q → A q) (isC : List Nat) (pl : plc w wc w1 w' isC)
    (kk : ∀ (H1 : Heap) (locs1 : List Loc), va_P D vwCl w' H1 → va_D A w' → va_S A H0 H1 locs1 → W p l e R s m args below meth c H1 locs1 cells slots Q (F0 m (pc + 3) ls (.int r :: rest))) : W p l e R s m args below meth c H locs cells slots Q (F0 m pc ls st0) := by
  have hF := va_free hD hS hA isC pl.1
  refine va_calli hr hS (fun q _ h => hF q h) hF (fun x u t H1 locs1 ht hvm hw hB hz1 hk1 hS1 => ?_)
  subst hw
  obtain ⟨hP2, hD2⟩ := ca_post hP hD pl ht hB hk1
  exact kk H1 locs1 hP2 hD2 hS1
theorem ca_z {r : Int32} {a : Array Value} (hr : va_Run p l e R s m args below meth c H locs cells slots 0 0 (F0 m pc ls st0) rest (va_Qi (fun x (_ : Unit) => x = r ∧ isb r = true) (po_ D cy (va_A wc H.size) w1) (va_A wc H.size) a) (va_A wc H.size))
    (hP : va_P D vwCl w H) (hD : va_D A w) (hS : va_S A H0 H locs) (hA : ∀ q, H0.size ≤ q → A q) (isC : List Nat) (pl : plc w wc w1 w' isC)
    (kk : isb r = true → ∀ (H1 : Heap) (locs1 : List Loc), va_P D vwCl w' H1 → va_D A w' → va_S A H0 H1 locs1 → W p l e R s m args below meth c H1 locs1 cells slots Q (F0 m (pc + 3) ls (.int r :: rest))) : W p l e R s m args below meth c H locs cells slots Q (F0 m pc ls st0) := by
  have hF := va_free hD hS hA isC pl.1
  refine va_calli hr hS (fun q _ h => hF q h) hF (fun x u t H1 locs1 ht hvm hw hB hz1 hk1 hS1 => ?_)
  obtain ⟨rfl, hz⟩ := hw
  obtain ⟨hP2, hD2⟩ := ca_post hP hD pl ht hB hk1
  exact kk hz H1 locs1 hP2 hD2 hS1
theorem ca_l {r : Int64} {a : Array Value} (hr : va_Run p l e R s m args below meth c H locs cells slots 0 0 (F0 m pc ls st0) rest (va_Ql (fun x (_ : Unit) => x = r) (po_ D cy (va_A wc H.size) w1) (va_A wc H.size) a) (va_A wc H.size))
    (hP : va_P D vwCl w H) (hD : va_D A w) (hS : va_S A H0 H locs) (hA : ∀ q, H0.size ≤ q → A q) (isC : List Nat) (pl : plc w wc w1 w' isC)
    (kk : ∀ (H1 : Heap) (locs1 : List Loc), va_P D vwCl w' H1 → va_D A w' → va_S A H0 H1 locs1 → W p l e R s m args below meth c H1 locs1 cells slots Q (F0 m (pc + 3) ls (.long r :: rest))) : W p l e R s m args below meth c H locs cells slots Q (F0 m pc ls st0) := by
  have hF := va_free hD hS hA isC pl.1
  refine va_calll hr hS (fun q _ h => hF q h) hF (fun x u t H1 locs1 ht hvm hw hB hz1 hk1 hS1 => ?_)
  subst hw
  obtain ⟨hP2, hD2⟩ := ca_post hP hD pl ht hB hk1
  exact kk H1 locs1 hP2 hD2 hS1
theorem ca_v {a : Array Value} (hr : va_Run p l e R s m args below meth c H locs cells slots 0 0 (F0 m pc ls st0) rest (va_Qv (fun (_ : Unit) => True) (po_ D cy (va_A wc H.size) w1) (va_A wc H.size) a) (va_A wc H.size))
    (hP : va_P D vwCl w H) (hD : va_D A w) (hS : va_S A H0 H locs) (hA : ∀ q, H0.size ≤ q → A q) (isC : List Nat) (pl : plc w wc w1 w' isC)
    (kk : ∀ (H1 : Heap) (locs1 : List Loc), va_P D vwCl w' H1 → va_D A w' → va_S A H0 H1 locs1 → W p l e R s m args below meth c H1 locs1 cells slots Q (F0 m (pc + 3) ls (rest))) : W p l e R s m args below meth c H locs cells slots Q (F0 m pc ls st0) := by
  have hF := va_free hD hS hA isC pl.1
  refine va_callv hr hS (fun q _ h => hF q h) hF (fun u t H1 locs1 ht hvm hw hB hz1 hk1 hS1 => ?_)
  skip
  obtain ⟨hP2, hD2⟩ := ca_post hP hD pl ht hB hk1
  exact kk H1 locs1 hP2 hD2 hS1
/-- how a call is run: a virtual one, one of a nest mate, static ones -/
theorem rn_V {Qc : Array Value → State → Outcome → State → Prop} {free : Addr → Prop} (S : CallFix p m c cc nL s args Ts own) (hM : Met l y ws rm (va_Pc (.ref b :: As) (pr_ D cy wc H.size)) Qc 0 0 free) (cw : CallW R s args own C index y bytes maxL ret ws rm 0 0 n) (hK : va_K D vwCl (tyL cy) s) (hN : NW s) (hP : va_P D vwCl w H) (hD : va_D A w) (isC : List Nat) (hC : isC.map (fun i => w[i]?) = wc.map some) (hn : va_nd isC = true)
    {ci q0 : Nat} {q : vw_C} {fs : List Value} (hc : vwCl[ci]? = some q) (he : w[q0]? = some (b, .inr (ci, fs))) (hq : q.1 = C) (hl : As.length = n) (hsize : ls.size = nL) (hstack : st0 = As.reverse ++ .ref b :: rest) (hW : (rest.map fun v => v.category).sum ≤ 8) (hdg : decode cc pc = .ok (.invokevirtual index, 3)) (hf : cells ≤ R.cells ∧ slots ≤ R.slots) :
    va_Run p l e R s m args below meth c H locs cells slots 0 0 (F0 m pc ls st0) rest (Qc (Value.ref b :: As).toArray) free := by
  subst hq
  exact va_runV S hM cw ⟨pr_blind D cy wc H.size _, va_recv hK hP hc he, ca_pre hK hN hP hD isC hC hn _⟩ rfl hl hsize hstack (lv_room hW) hdg hf
theorem rn_VN {Qc : Array Value → State → Outcome → State → Prop} {free : Addr → Prop} (S : CallFix p m c cc nL s args Ts own) (hM : Met l y ws rm (va_Pc (.ref b :: As) (pr_ D cy wc H.size)) Qc 0 0 free) (cw : va_CN R s args own index y host bytes maxL ret ws rm 0 0 n ∧ (Cond.instanceMethod y).before args s = true ∧ (Cond.selects C y y).before args s = true) (hK : va_K D vwCl (tyL cy) s) (hN : NW s) (hP : va_P D vwCl w H) (hD : va_D A w) (isC : List Nat) (hC : isC.map (fun i => w[i]?) = wc.map some) (hn : va_nd isC = true)
    {ci q0 : Nat} {q : vw_C} {fs : List Value} (hc : vwCl[ci]? = some q) (he : w[q0]? = some (b, .inr (ci, fs))) (hq : q.1 = C) (hl : As.length = n) (hsize : ls.size = nL) (hstack : st0 = As.reverse ++ .ref b :: rest) (hW : (rest.map fun v => v.category).sum ≤ 8) (hdg : decode cc pc = .ok (.invokevirtual index, 3)) (hf : cells ≤ R.cells ∧ slots ≤ R.slots) :
    va_Run p l e R s m args below meth c H locs cells slots 0 0 (F0 m pc ls st0) rest (Qc (Value.ref b :: As).toArray) free := by
  subst hq
  exact va_runVN S hM cw ⟨pr_blind D cy wc H.size _, va_recv hK hP hc he, ca_pre hK hN hP hD isC hC hn _⟩ rfl hl hsize hstack (lv_room hW) hdg hf
theorem rn_S {Qc : Array Value → State → Outcome → State → Prop} {free : Addr → Prop} (S : CallFix p m c cc nL s args Ts own) (hM : Met l y ws rm (va_Pc As (pr_ D cy wc H.size)) Qc 0 0 free) (cw : CallB R s args own index y bytes maxL ret ws rm 0 0 n ∧ (Cond.static y).before args s = true) (hK : va_K D vwCl (tyL cy) s) (hN : NW s) (hP : va_P D vwCl w H) (hD : va_D A w) (isC : List Nat) (hC : isC.map (fun i => w[i]?) = wc.map some) (hn : va_nd isC = true)
    (hl : As.length = n) (hsize : ls.size = nL) (hstack : st0 = As.reverse ++ rest) (hW : (rest.map fun v => v.category).sum ≤ 8) (hdg : decode cc pc = .ok (.invokestatic index, 3)) (hf : cells ≤ R.cells ∧ slots ≤ R.slots) :
    va_Run p l e R s m args below meth c H locs cells slots 0 0 (F0 m pc ls st0) rest (Qc As.toArray) free :=
  va_runS S hM cw ⟨pr_blind D cy wc H.size _, ca_pre hK hN hP hD isC hC hn _⟩ rfl hl hsize hstack (lv_room hW) hdg hf
theorem rn_SN {Qc : Array Value → State → Outcome → State → Prop} {free : Addr → Prop} (S : CallFix p m c cc nL s args Ts own) (hM : Met l y ws rm (va_Pc As (pr_ D cy wc H.size)) Qc 0 0 free) (cw : va_CN R s args own index y host bytes maxL ret ws rm 0 0 n ∧ (Cond.static y).before args s = true ∧ True) (hK : va_K D vwCl (tyL cy) s) (hN : NW s) (hP : va_P D vwCl w H) (hD : va_D A w) (isC : List Nat) (hC : isC.map (fun i => w[i]?) = wc.map some) (hn : va_nd isC = true)
    (hl : As.length = n) (hsize : ls.size = nL) (hstack : st0 = As.reverse ++ rest) (hW : (rest.map fun v => v.category).sum ≤ 8) (hdg : decode cc pc = .ok (.invokestatic index, 3)) (hf : cells ≤ R.cells ∧ slots ≤ R.slots) :
    va_Run p l e R s m args below meth c H locs cells slots 0 0 (F0 m pc ls st0) rest (Qc As.toArray) free :=
  va_runSN S hM cw ⟨pr_blind D cy wc H.size _, ca_pre hK hN hP hD isC hC hn _⟩ rfl hl hsize hstack (lv_room hW) hdg hf
end CALLS
