/-! ===== the nest mates' links, contracts and calls ===== -/
def nwF : List (String × Nat × String × String × String × String) := [("KneeBench$BenchText", 95, "KneeBench$Bench", "names", "[J", "KneeBench"), ("KneeBench$BenchText", 110, "KneeBench$Bench", "lags", "[I", "KneeBench"), ("KneeBench", 218, "KneeBench$Bench", "lags", "[I", "KneeBench"), ("KneeBench$BenchText", 117, "KneeBench$Bench", "fails", "[I", "KneeBench"), ("KneeBench", 221, "KneeBench$Bench", "fails", "[I", "KneeBench"), ("KneeBench$BenchText", 120, "KneeBench$Bench", "falses", "[I", "KneeBench"), ("KneeBench", 224, "KneeBench$Bench", "falses", "[I", "KneeBench"), ("KneeBench$BenchText", 126, "KneeBench$Bench", "cures", "[I", "KneeBench"), ("KneeBench", 234, "KneeBench$Bench", "cures", "[I", "KneeBench"), ("KneeBench$Life", 94, "KneeBench$Bench", "weights", "[I", "KneeBench"), ("KneeBench", 237, "KneeBench$Bench", "weights", "[I", "KneeBench"), ("KneeBench", 240, "KneeBench$Bench", "twinges", "[J", "KneeBench"), ("KneeBench$Seats", 22, "KneeBench$Bench", "farmers", "I", "KneeBench"), ("KneeBench$BenchText", 78, "KneeBench$Bench", "farmers", "I", "KneeBench"), ("KneeBench", 178, "KneeBench$Bench", "farmers", "I", "KneeBench"), ("KneeBench$Life", 104, "KneeBench$Bench", "days", "I", "KneeBench"), ("KneeBench$BenchText", 146, "KneeBench$Bench", "days", "I", "KneeBench"), ("KneeBench", 197, "KneeBench$Bench", "days", "I", "KneeBench"), ("KneeBench", 200, "KneeBench$Bench", "wet", "J", "KneeBench"), ("KneeBench", 209, "KneeBench$Bench", "hail", "J", "KneeBench"), ("KneeBench$BenchText", 167, "KneeBench$Bench", "vote", "I", "KneeBench"), ("KneeBench", 212, "KneeBench$Bench", "vote", "I", "KneeBench"), ("KneeBench$BenchText", 123, "KneeBench$Bench", "elbows", "I", "KneeBench"), ("KneeBench$Life", 50, "KneeBench$Season", "kinds", "[I", "KneeBench"), ("KneeBench$SeasonText", 80, "KneeBench$Season", "kinds", "[I", "KneeBench"), ("KneeBench$Life", 82, "KneeBench$Season", "farmers", "[I", "KneeBench"), ("KneeBench$SeasonText", 130, "KneeBench$Season", "farmers", "[I", "KneeBench"), ("KneeBench$Life", 97, "KneeBench$Season", "signs", "[I", "KneeBench"), ("KneeBench$SeasonText", 118, "KneeBench$Season", "signs", "[I", "KneeBench"), ("KneeBench$Life", 68, "KneeBench$Season", "numbers", "[I", "KneeBench"), ("KneeBench$SeasonText", 124, "KneeBench$Season", "numbers", "[I", "KneeBench"), ("KneeBench$Life", 65, "KneeBench$Season", "partners", "[I", "KneeBench"), ("KneeBench$SeasonText", 83, "KneeBench$Season", "partners", "[I", "KneeBench"), ("KneeBench$SeasonText", 77, "KneeBench$Season", "size", "I", "KneeBench"), ("KneeBench$Life", 75, "KneeBench$Season", "size", "I", "KneeBench"), ("KneeBench$SeasonText", 92, "KneeBench$Season", "steps", "I", "KneeBench"), ("KneeBench", 188, "KneeBench$Season", "steps", "I", "KneeBench"), ("KneeBench$SeasonText", 67, "KneeBench$Season", "isThere", "Z", "KneeBench"), ("KneeBench", 397, "KneeBench$Season", "isThere", "Z", "KneeBench"), ("KneeBench", 150, "KneeBench$Trays", "sorts", "[I", "KneeBench"), ("KneeBench", 161, "KneeBench$Tokens", "filled", "I", "KneeBench"), ("KneeBench$BenchText", 152, "KneeBench$Tokens", "place", "I", "KneeBench"), ("KneeBench$BenchText", 149, "KneeBench$Tokens", "behind", "I", "KneeBench"), ("KneeBench$BenchText", 87, "KneeBench$Tokens", "word", "J", "KneeBench"), ("KneeBench$SeasonText", 49, "KneeBench$Tokens", "keyword", "I", "KneeBench"), ("KneeBench$BenchText", 51, "KneeBench$Tokens", "keyword", "I", "KneeBench"), ("KneeBench$SeasonText", 121, "KneeBench$Tokens", "value", "I", "KneeBench"), ("KneeBench$BenchText", 114, "KneeBench$Tokens", "number", "I", "KneeBench"), ("KneeBench$SeasonText", 127, "KneeBench$Tokens", "number", "I", "KneeBench"), ("KneeBench$BenchText", 133, "KneeBench$Tokens", "farmer", "I", "KneeBench"), ("KneeBench$SeasonText", 133, "KneeBench$Tokens", "farmer", "I", "KneeBench"), ("KneeBench", 191, "KneeBench$Tokens", "fault", "I", "KneeBench"), ("KneeBench", 194, "KneeBench$Tokens", "faultPlace", "I", "KneeBench"), ("KneeBench", 405, "KneeBench$Life", "steps", "I", "KneeBench"), ("KneeBench", 406, "KneeBench$Life", "missed", "I", "KneeBench"), ("KneeBench", 409, "KneeBench$Life", "newDays", "I", "KneeBench"), ("KneeBench", 412, "KneeBench$Life", "wetDays", "I", "KneeBench"), ("KneeBench", 415, "KneeBench$Life", "isCut", "Z", "KneeBench"), ("KneeBench", 354, "KneeBench$Seats", "row", "[I", "KneeBench"), ("KneeBench", 351, "KneeBench$Seats", "taken", "I", "KneeBench")]
def nwM : List (String × Nat × MethodName × String) := [("KneeBench", 9, ⟨"KneeBench$Bench", "<init>", "()V"⟩, "KneeBench"), ("KneeBench", 18, ⟨"KneeBench$Season", "<init>", "()V"⟩, "KneeBench"), ("KneeBench", 31, ⟨"KneeBench$Mark", "<init>", "()V"⟩, "KneeBench"), ("KneeBench$Mark", 9, ⟨"KneeBench$Bench", "<init>", "()V"⟩, "KneeBench"), ("KneeBench$Mark", 18, ⟨"KneeBench$Season", "<init>", "()V"⟩, "KneeBench"), ("KneeBench", 76, ⟨"KneeBench$Life", "<init>", "()V"⟩, "KneeBench"), ("KneeBench$Life", 11, ⟨"KneeBench$Draws", "<init>", "()V"⟩, "KneeBench"), ("KneeBench", 86, ⟨"KneeBench$Draws", "<init>", "()V"⟩, "KneeBench"), ("KneeBench", 93, ⟨"KneeBench$Seats", "<init>", "()V"⟩, "KneeBench"), ("KneeBench$BenchText", 102, ⟨"KneeBench", "bit", "(Z)I"⟩, "KneeBench"), ("KneeBench$Tokens", 95, ⟨"KneeBench", "outside", "(III)Z"⟩, "KneeBench"), ("KneeBench$BenchText", 163, ⟨"KneeBench", "outside", "(III)Z"⟩, "KneeBench"), ("KneeBench$Bench", 87, ⟨"KneeBench", "later", "(JI)J"⟩, "KneeBench"), ("KneeBench$Bench", 71, ⟨"KneeBench", "firstDays", "(I)J"⟩, "KneeBench"), ("KneeBench$Bench", 136, ⟨"KneeBench", "bit", "(Z)I"⟩, "KneeBench"), ("KneeBench$Life", 53, ⟨"KneeBench", "bit", "(Z)I"⟩, "KneeBench")]
abbrev nwFc (q : String × Nat × String × String × String × String) : Cond := .fieldLinkNest q.1 q.2.1 q.2.2.1 q.2.2.2.1 q.2.2.2.2.1 q.2.2.2.2.2
abbrev nwMc (q : String × Nat × MethodName × String) : Cond := .methodLinkNest q.1 q.2.1 q.2.2.1 q.2.2.2
/-- the links to nest mates' private members -/
def NW (U : State) : Prop := (∀ q ∈ nwF, va_Nw (nwFc q) U) ∧ ∀ q ∈ nwM, va_Nw (nwMc q) U
theorem NW.warm {s U : State} (hW : s.WarmedH U.vm) (h : NW s) : NW U := ⟨fun q hq => va_Nw.warmF hW (h.1 q hq), fun q hq => va_Nw.warmM hW (h.2 q hq)⟩
theorem NW.same {u U : State} (e : u.vm = U.vm) (h : NW u) : NW U := ⟨fun q hq => va_Nw.same rfl e (h.1 q hq), fun q hq => va_Nw.same rfl e (h.2 q hq)⟩
theorem NW.fld {s : State} (h : NW s) (i : Nat) {q : String × Nat × String × String × String × String} (hq : nwF[i]? = some q) (args : Array Value) : (nwFc q).before args s = true := va_Nw.use rfl (h.1 q (List.mem_of_getElem? hq))
theorem NW.met {s : State} (h : NW s) (i : Nat) {q : String × Nat × MethodName × String} (hq : nwM[i]? = some q) : va_Nw (nwMc q) s := h.2 q (List.mem_of_getElem? hq)
/-- the world before and behind a call -/
def pr_ (D : va_G) (cy : Nat → ClassId) (w : va_W) (sz : Nat) (U : State) : Prop := U.heap.size = sz ∧ va_P D vwCl w U.heap ∧ va_K D vwCl (tyL cy) U ∧ va_D (fun _ => True) w ∧ NW U
def po_ (D : va_G) (cy : Nat → ClassId) (A : Nat → Prop) (w : va_W) (_ : Unit) (t : State) : Prop := va_P D vwCl w t.heap ∧ va_K D vwCl (tyL cy) t ∧ va_D A w
theorem pr_blind (D : va_G) (cy : Nat → ClassId) (w : va_W) (sz : Nat) (av : List Value) : FrameBlind (va_Pc av (pr_ D cy w sz)) := fun a U g mk q => by
  obtain ⟨q0, q1, qP, qK, qD, qN⟩ := q
  exact ⟨q0, q1, qP, va_K.moved (u := U) (U := U.calling g mk a) (Vm.Alike.refl U.vm) qK, qD, NW.same (u := U) rfl qN⟩
/-- contracts: a method makes nothing, answers r, and turns the world w0 into w1 -/
abbrev CI (l : Launch) (D : va_G) (cy : Nat → ClassId) (y : MethodName) (ws : List Cond) (rm : Room) (av : List Value) (w0 w1 : va_W) (r : Int32) : Prop :=
  ∀ sz, Met l y ws rm (va_Pc av (pr_ D cy w0 sz)) (va_Qi (fun x (_ : Unit) => x = r) (po_ D cy (va_A w0 sz) w1) (va_A w0 sz)) 0 0 (va_A w0 sz)
abbrev CZ (l : Launch) (D : va_G) (cy : Nat → ClassId) (y : MethodName) (ws : List Cond) (rm : Room) (av : List Value) (w0 w1 : va_W) (r : Int32) : Prop :=
  ∀ sz, Met l y ws rm (va_Pc av (pr_ D cy w0 sz)) (va_Qi (fun x (_ : Unit) => x = r ∧ isb r = true) (po_ D cy (va_A w0 sz) w1) (va_A w0 sz)) 0 0 (va_A w0 sz)
abbrev CL (l : Launch) (D : va_G) (cy : Nat → ClassId) (y : MethodName) (ws : List Cond) (rm : Room) (av : List Value) (w0 w1 : va_W) (r : Int64) : Prop :=
  ∀ sz, Met l y ws rm (va_Pc av (pr_ D cy w0 sz)) (va_Ql (fun x (_ : Unit) => x = r) (po_ D cy (va_A w0 sz) w1) (va_A w0 sz)) 0 0 (va_A w0 sz)
abbrev CV (l : Launch) (D : va_G) (cy : Nat → ClassId) (y : MethodName) (ws : List Cond) (rm : Room) (av : List Value) (w0 w1 : va_W) : Prop :=
  ∀ sz, Met l y ws rm (va_Pc av (pr_ D cy w0 sz)) (va_Qv (fun (_ : Unit) => True) (po_ D cy (va_A w0 sz) w1) (va_A w0 sz)) 0 0 (va_A w0 sz)
/-- what a method's walk begins with -/
abbrev ent (p : Program) (s : State) (m : MethodId) (args : Array Value) (c : Code) (cc : ByteArray) (maxL : Nat) (ws : List Cond) (own : String) (D : va_G) (cy : Nat → ClassId) (A : Nat → Prop) (w0 : va_W) (av : List Value) (ls : Array Slot) : Prop :=
  p.tables.exec = Jvm.exec ∧ c.code = cc ∧ c.maxLocals = maxL ∧ s.vm.findClass own = some m.cls ∧ (∀ w ∈ ws, w.before args s = true) ∧ va_K D vwCl (tyL cy) s ∧ NW s ∧ va_P D vwCl w0 s.heap ∧ va_D A w0 ∧ (∀ q : Nat, s.heap.size ≤ q → A q) ∧ lv_has ls maxL (lv_args 0 av)
theorem CI.of {l : Launch} {D : va_G} {cy : Nat → ClassId} {y : MethodName} {ws ws' : List Cond} {rm : Room} {av : List Value} {w0 w1 : va_W} {r : Int32} {cc : ByteArray} {maxL : Nat}
    (hy : plainName y.cls = true) (hw : ws = Cond.code y cc maxL (some .int) :: ws') (hL : (lg_sl av).length ≤ maxL)
    (body : ∀ (p : Program) (e : Env) (s : State) (m : MethodId) (args : Array Value) (below : List Frame) (meth : Method) (c : Code) (A : Nat → Prop) (QQ : State → Prop) (ls : Array Slot), ent p s m args c cc maxL ws y.cls D cy A w0 av ls →
      (∀ (pc : Nat) (H : Heap) (locs : List Loc) (ls : Array Slot) (x : Int32), x = r → va_P D vwCl w1 H → va_D A w1 → va_S A s.heap H locs → decode cc pc = .ok (.ireturn, 1) → W p l e rm s m args below meth c H locs 0 0 QQ (F0 m pc ls [.int x])) →
      W p l e rm s m args below meth c s.heap [] 0 0 QQ (F0 m 0 ls [])) : CI l D cy y ws rm av w0 w1 r := by
  intro sz
  refine Met.ofW (cc := cc) (maxL := maxL) (ret := some .int) hy hw ?_
  intro p e s m args below meth c s₁ B hml hv
  obtain ⟨rfl, hsz, hP, hK, hD0, hN⟩ := hv
  subst hsz
  have hl := lv_entry av (n := maxL) hL
  rw [lg_entry_eq]
  generalize (lg_sl av ++ List.replicate (maxL - (lg_sl av).length) Slot.unset).toArray = ls at hl ⊢
  refine body p e s m _ below meth c (va_A w0 s.heap.size) _ ls ⟨B.exec, B.bytes, hml, findClass_of_methodNamed B.named, atoms_spec (ws := ws) B.pre, hK, hN, hP, hD0.self, fun q h => Or.inr h, hl⟩ ?_
  intro pc H locs ls x hx hP hD hS hd
  have hlocks := B.notSynchronized
  exact W.iret (v := x) B.exec B.bytes B.returns (fun t ht hW => ⟨⟨x, (), rfl, hx, by rw [ht]; exact hP, va_K.moved hW.alike hK, hD⟩, hS.F ht⟩) hS.2.2 hd
theorem CZ.of {l : Launch} {D : va_G} {cy : Nat → ClassId} {y : MethodName} {ws ws' : List Cond} {rm : Room} {av : List Value} {w0 w1 : va_W} {r : Int32} {cc : ByteArray} {maxL : Nat}
    (hy : plainName y.cls = true) (hw : ws = Cond.code y cc maxL (some .boolean) :: ws') (hL : (lg_sl av).length ≤ maxL)
    (body : ∀ (p : Program) (e : Env) (s : State) (m : MethodId) (args : Array Value) (below : List Frame) (meth : Method) (c : Code) (A : Nat → Prop) (QQ : State → Prop) (ls : Array Slot), ent p s m args c cc maxL ws y.cls D cy A w0 av ls →
      (∀ (pc : Nat) (H : Heap) (locs : List Loc) (ls : Array Slot) (x : Int32), x = r → va_P D vwCl w1 H → va_D A w1 → va_S A s.heap H locs → isb x = true → decode cc pc = .ok (.ireturn, 1) → W p l e rm s m args below meth c H locs 0 0 QQ (F0 m pc ls [.int x])) →
      W p l e rm s m args below meth c s.heap [] 0 0 QQ (F0 m 0 ls [])) : CZ l D cy y ws rm av w0 w1 r := by
  intro sz
  refine Met.ofW (cc := cc) (maxL := maxL) (ret := some .boolean) hy hw ?_
  intro p e s m args below meth c s₁ B hml hv
  obtain ⟨rfl, hsz, hP, hK, hD0, hN⟩ := hv
  subst hsz
  have hl := lv_entry av (n := maxL) hL
  rw [lg_entry_eq]
  generalize (lg_sl av ++ List.replicate (maxL - (lg_sl av).length) Slot.unset).toArray = ls at hl ⊢
  refine body p e s m _ below meth c (va_A w0 s.heap.size) _ ls ⟨B.exec, B.bytes, hml, findClass_of_methodNamed B.named, atoms_spec (ws := ws) B.pre, hK, hN, hP, hD0.self, fun q h => Or.inr h, hl⟩ ?_
  intro pc H locs ls x hx hP hD hS hz hd
  have hlocks := B.notSynchronized
  exact W.zret (v := x) B.exec B.bytes B.returns (isb_nar hz) (fun t ht hW => ⟨⟨x, (), rfl, ⟨hx, hx ▸ hz⟩, by rw [ht]; exact hP, va_K.moved hW.alike hK, hD⟩, hS.F ht⟩) hS.2.2 hd
theorem CL.of {l : Launch} {D : va_G} {cy : Nat → ClassId} {y : MethodName} {ws ws' : List Cond} {rm : Room} {av : List Value} {w0 w1 : va_W} {r : Int64} {cc : ByteArray} {maxL : Nat}
    (hy : plainName y.cls = true) (hw : ws = Cond.code y cc maxL (some .long) :: ws') (hL : (lg_sl av).length ≤ maxL)
    (body : ∀ (p : Program) (e : Env) (s : State) (m : MethodId) (args : Array Value) (below : List Frame) (meth : Method) (c : Code) (A : Nat → Prop) (QQ : State → Prop) (ls : Array Slot), ent p s m args c cc maxL ws y.cls D cy A w0 av ls →
      (∀ (pc : Nat) (H : Heap) (locs : List Loc) (ls : Array Slot) (x : Int64), x = r → va_P D vwCl w1 H → va_D A w1 → va_S A s.heap H locs → decode cc pc = .ok (.lreturn, 1) → W p l e rm s m args below meth c H locs 0 0 QQ (F0 m pc ls [.long x])) →
      W p l e rm s m args below meth c s.heap [] 0 0 QQ (F0 m 0 ls [])) : CL l D cy y ws rm av w0 w1 r := by
  intro sz
  refine Met.ofW (cc := cc) (maxL := maxL) (ret := some .long) hy hw ?_
  intro p e s m args below meth c s₁ B hml hv
  obtain ⟨rfl, hsz, hP, hK, hD0, hN⟩ := hv
  subst hsz
  have hl := lv_entry av (n := maxL) hL
  rw [lg_entry_eq]
  generalize (lg_sl av ++ List.replicate (maxL - (lg_sl av).length) Slot.unset).toArray = ls at hl ⊢
  refine body p e s m _ below meth c (va_A w0 s.heap.size) _ ls ⟨B.exec, B.bytes, hml, findClass_of_methodNamed B.named, atoms_spec (ws := ws) B.pre, hK, hN, hP, hD0.self, fun q h => Or.inr h, hl⟩ ?_
  intro pc H locs ls x hx hP hD hS hd
  have hlocks := B.notSynchronized
  exact W.lret (v := x) B.exec B.bytes B.returns (fun t ht hW => ⟨⟨x, (), rfl, hx, by rw [ht]; exact hP, va_K.moved hW.alike hK, hD⟩, hS.F ht⟩) hS.2.2 hd
theorem CV.of {l : Launch} {D : va_G} {cy : Nat → ClassId} {y : MethodName} {ws ws' : List Cond} {rm : Room} {av : List Value} {w0 w1 : va_W} {cc : ByteArray} {maxL : Nat}
    (hy : plainName y.cls = true) (hw : ws = Cond.code y cc maxL none :: ws') (hL : (lg_sl av).length ≤ maxL)
    (body : ∀ (p : Program) (e : Env) (s : State) (m : MethodId) (args : Array Value) (below : List Frame) (meth : Method) (c : Code) (A : Nat → Prop) (QQ : State → Prop) (ls : Array Slot), ent p s m args c cc maxL ws y.cls D cy A w0 av ls →
      (∀ (pc : Nat) (H : Heap) (locs : List Loc) (ls : Array Slot), va_P D vwCl w1 H → va_D A w1 → va_S A s.heap H locs → decode cc pc = .ok (.return_, 1) → W p l e rm s m args below meth c H locs 0 0 QQ (F0 m pc ls [])) →
      W p l e rm s m args below meth c s.heap [] 0 0 QQ (F0 m 0 ls [])) : CV l D cy y ws rm av w0 w1 := by
  intro sz
  refine Met.ofW (cc := cc) (maxL := maxL) (ret := none) hy hw ?_
  intro p e s m args below meth c s₁ B hml hv
  obtain ⟨rfl, hsz, hP, hK, hD0, hN⟩ := hv
  subst hsz
  have hl := lv_entry av (n := maxL) hL
  rw [lg_entry_eq]
  generalize (lg_sl av ++ List.replicate (maxL - (lg_sl av).length) Slot.unset).toArray = ls at hl ⊢
  refine body p e s m _ below meth c (va_A w0 s.heap.size) _ ls ⟨B.exec, B.bytes, hml, findClass_of_methodNamed B.named, atoms_spec (ws := ws) B.pre, hK, hN, hP, hD0.self, fun q h => Or.inr h, hl⟩ ?_
  intro pc H locs ls hP hD hS hd
  have hlocks := B.notSynchronized
  exact W.vret B.exec B.bytes B.returns (fun t ht hW => ⟨⟨(), rfl, trivial, by rw [ht]; exact hP, va_K.moved hW.alike hK, hD⟩, hS.F ht⟩) hS.2.2 hd
/-- a world in blocks: an object with its rows is one -/
def flat : List va_W → va_W
  | [] => []
  | b :: bs => b ++ flat bs
def PB (D : va_G) (bs : List va_W) (H : Heap) : Prop := ∀ (k : Nat) (b : va_W), bs[k]? = some b → va_P D vwCl b H
theorem PB_flat {D : va_G} {H : Heap} : ∀ {bs : List va_W}, PB D bs H ↔ va_P D vwCl (flat bs) H := by
  intro bs
  induction bs with
  | nil => exact ⟨fun _ k q h => (by cases h), fun _ k b h => (by cases h)⟩
  | cons b bs ih =>
    constructor
    · intro h k q hk
      by_cases hl : k < b.length
      · rw [show flat (b :: bs) = b ++ flat bs from rfl, List.getElem?_append_left hl] at hk
        exact h 0 b rfl k q hk
      · rw [show flat (b :: bs) = b ++ flat bs from rfl, List.getElem?_append_right (by omega)] at hk
        exact (ih.mp (fun i c hc => h (i + 1) c hc)) _ q hk
    · intro h k c hk
      cases k with
      | zero =>
        cases hk
        intro i q hi
        exact h i q (by rw [show flat (b :: bs) = b ++ flat bs from rfl, List.getElem?_append_left (List.getElem?_eq_some_iff.mp hi).1]; exact hi)
      | succ k =>
        refine ih.mpr (fun i q hi => ?_) k c hk
        exact h (b.length + i) q (by rw [show flat (b :: bs) = b ++ flat bs from rfl, List.getElem?_append_right (by omega), Nat.add_sub_cancel_left]; exact hi)
/-- the addresses of a world, by its blocks: all apart, all in A -/
def DB (A : Nat → Prop) (bs : List va_W) : Prop := (∀ (k i k2 i2 : Nat) (b b2 : va_W) (x x2 : Nat × va_E), bs[k]? = some b → b[i]? = some x → bs[k2]? = some b2 → b2[i2]? = some x2 → x.1 = x2.1 → k = k2 ∧ i = i2) ∧ ∀ (k i : Nat) (b : va_W) (x : Nat × va_E), bs[k]? = some b → b[i]? = some x → A x.1
def offB : List va_W → Nat → Nat
  | [], _ => 0
  | _ :: _, 0 => 0
  | b :: bs, k + 1 => b.length + offB bs k
theorem flat_at : ∀ {bs : List va_W} {k i : Nat} {b : va_W} {x : Nat × va_E}, bs[k]? = some b → b[i]? = some x → (flat bs)[offB bs k + i]? = some x := by
  intro bs
  induction bs with
  | nil => intro k i b x h; cases h
  | cons c cs ih =>
    intro k i b x h hi
    cases k with
    | zero =>
      cases h
      rw [show flat (c :: cs) = c ++ flat cs from rfl, show offB (c :: cs) 0 = 0 from rfl, Nat.zero_add, List.getElem?_append_left (List.getElem?_eq_some_iff.mp hi).1]
      exact hi
    | succ k =>
      rw [show flat (c :: cs) = c ++ flat cs from rfl, show offB (c :: cs) (k + 1) = c.length + offB cs k from rfl, List.getElem?_append_right (by omega), show c.length + offB cs k + i - c.length = offB cs k + i by omega]
      exact ih h hi
theorem flat_of : ∀ {bs : List va_W} {n : Nat} {x : Nat × va_E}, (flat bs)[n]? = some x → ∃ (k i : Nat) (b : va_W), bs[k]? = some b ∧ b[i]? = some x ∧ n = offB bs k + i := by
  intro bs
  induction bs with
  | nil => intro n x h; cases h
  | cons c cs ih =>
    intro n x h
    by_cases hl : n < c.length
    · rw [show flat (c :: cs) = c ++ flat cs from rfl, List.getElem?_append_left hl] at h
      exact ⟨0, n, c, rfl, h, by rw [show offB (c :: cs) 0 = 0 from rfl]; omega⟩
    · rw [show flat (c :: cs) = c ++ flat cs from rfl, List.getElem?_append_right (by omega)] at h
      obtain ⟨k, i, b, h1, h2, h3⟩ := ih h
      exact ⟨k + 1, i, b, h1, h2, by rw [show offB (c :: cs) (k + 1) = c.length + offB cs k from rfl]; omega⟩
theorem offB_inj : ∀ {bs : List va_W} {k i k2 i2 : Nat} {b b2 : va_W}, bs[k]? = some b → i < b.length → bs[k2]? = some b2 → i2 < b2.length → offB bs k + i = offB bs k2 + i2 → k = k2 ∧ i = i2 := by
  intro bs
  induction bs with
  | nil => intro k i k2 i2 b b2 h; cases h
  | cons c cs ih =>
    intro k i k2 i2 b b2 h hi h2 hi2 e
    cases k with
    | zero =>
      cases k2 with
      | zero => rw [show offB (c :: cs) 0 = 0 from rfl] at e; exact ⟨rfl, by omega⟩
      | succ k2 =>
        cases h
        rw [show offB (c :: cs) 0 = 0 from rfl, show offB (c :: cs) (k2 + 1) = c.length + offB cs k2 from rfl] at e
        omega
    | succ k =>
      cases k2 with
      | zero =>
        cases h2
        rw [show offB (c :: cs) 0 = 0 from rfl, show offB (c :: cs) (k + 1) = c.length + offB cs k from rfl] at e
        omega
      | succ k2 =>
        rw [show offB (c :: cs) (k + 1) = c.length + offB cs k from rfl, show offB (c :: cs) (k2 + 1) = c.length + offB cs k2 from rfl] at e
        obtain ⟨a, b⟩ := ih (k := k) (k2 := k2) h hi h2 hi2 (by omega)
        exact ⟨by omega, b⟩
theorem DB_flat {A : Nat → Prop} {bs : List va_W} : va_D A (flat bs) ↔ DB A bs := by
  constructor
  · intro h
    refine ⟨fun k i k2 i2 b b2 x x2 h1 h2 h3 h4 e => ?_, fun k i b x h1 h2 => h.2 _ x (flat_at h1 h2)⟩
    have := h.1 _ _ x x2 (flat_at h1 h2) (flat_at h3 h4) e
    exact offB_inj h1 (List.getElem?_eq_some_iff.mp h2).1 h3 (List.getElem?_eq_some_iff.mp h4).1 this
  · intro h
    refine ⟨fun n n2 x x2 h1 h2 e => ?_, fun n x h1 => ?_⟩
    · obtain ⟨k, i, b, a1, a2, a3⟩ := flat_of h1
      obtain ⟨k2, i2, b2, c1, c2, c3⟩ := flat_of h2
      obtain ⟨rfl, rfl⟩ := h.1 k i k2 i2 b b2 x x2 a1 a2 c1 c2 e
      rw [a3, c3]
    · obtain ⟨k, i, b, a1, a2, a3⟩ := flat_of h1
      exact h.2 k i b x a1 a2
/-- blocks put in at their places -/
def putB : List va_W → List Nat → List va_W → List va_W
  | w, i :: is, x :: xs => putB (w.set i x) is xs
  | w, [], _ => w
  | w, _ :: _, [] => w
theorem putB_spec : ∀ (is : List Nat) (xs w : List va_W), is.length = xs.length → ∀ (k : Nat) (q : va_W), (putB w is xs)[k]? = some q → (∃ j : Nat, is[j]? = some k ∧ xs[j]? = some q) ∨ (k ∉ is ∧ w[k]? = some q) := by
  intro is
  induction is with
  | nil => intro xs w _ k q h; exact Or.inr ⟨List.not_mem_nil, by cases xs <;> exact h⟩
  | cons i is ih =>
    intro xs w hlen k q h
    cases xs with
    | nil => cases hlen
    | cons x xs =>
      rcases ih xs (w.set i x) (Nat.succ.inj hlen) k q h with ⟨j, h1, h2⟩ | ⟨h1, h2⟩
      · exact Or.inl ⟨j + 1, h1, h2⟩
      · by_cases e : i = k
        · subst e
          rw [List.getElem?_set] at h2
          rw [if_pos rfl] at h2
          split at h2
          · exact Or.inl ⟨0, rfl, h2⟩
          · cases h2
        · rw [List.getElem?_set, if_neg e] at h2
          exact Or.inr ⟨fun hm => by rcases List.mem_cons.mp hm with z | z; exact e z.symm; exact h1 z, h2⟩
theorem atB {is : List Nat} {bs cs : List va_W} (h : is.map (fun i => bs[i]?) = cs.map some) {j : Nat} {b : va_W} (hj : cs[j]? = some b) : ∃ i, is[j]? = some i ∧ bs[i]? = some b := by
  have h1 : (is.map (fun i => bs[i]?))[j]? = some (some b) := by rw [h, List.getElem?_map, hj]; rfl
  rw [List.getElem?_map] at h1
  cases hi : is[j]? with
  | none => rw [hi] at h1; cases h1
  | some i => rw [hi] at h1; exact ⟨i, rfl, Option.some.inj h1⟩
/-- the callee's blocks are apart -/
theorem DB_sub {A : Nat → Prop} {is : List Nat} {bs cs : List va_W} (h : DB A bs) (hC : is.map (fun i => bs[i]?) = cs.map some) (hn : va_nd is = true) : DB (fun _ => True) cs := by
  refine ⟨fun k i k2 i2 b b2 x x2 h1 h2 h3 h4 e => ?_, fun _ _ _ _ _ _ => trivial⟩
  obtain ⟨p, p1, p2⟩ := atB hC h1
  obtain ⟨q, q1, q2⟩ := atB hC h3
  obtain ⟨rfl, e2⟩ := h.1 p i q i2 b b2 x x2 p2 h2 q2 h4 e
  exact ⟨va_nd_inj _ hn _ _ _ p1 q1, e2⟩
theorem va_D_fst {A : Nat → Prop} {w w' : va_W} (h : va_D A w) (e : w'.map Prod.fst = w.map Prod.fst) : va_D A w' := by
  have key : ∀ (k : Nat) (q : Nat × va_E), w'[k]? = some q → ∃ q2 : Nat × va_E, w[k]? = some q2 ∧ q2.1 = q.1 := by
    intro k q hk
    have h1 : (w'.map Prod.fst)[k]? = some q.1 := by rw [List.getElem?_map, hk]; rfl
    rw [e, List.getElem?_map] at h1
    cases h2 : w[k]? with
    | none => rw [h2] at h1; cases h1
    | some q2 => rw [h2] at h1; exact ⟨q2, rfl, Option.some.inj h1⟩
  refine ⟨fun i j x y hi hj hxy => ?_, fun k q hk => ?_⟩
  · obtain ⟨x2, a1, a2⟩ := key i x hi
    obtain ⟨y2, b1, b2⟩ := key j y hj
    exact h.1 i j x2 y2 a1 b1 (by rw [a2, b2, hxy])
  · obtain ⟨x2, a1, a2⟩ := key k q hk
    rw [← a2]; exact h.2 k x2 a1
section CALLS
variable {p : Program} {l : Launch} {e : Env} {R : Room} {s : State} {m : MethodId} {args : Array Value} {below : List Frame} {meth : Method} {c : Code} {H : Heap} {locs : List Loc} {cells slots : Nat} {Q : State → Prop}
variable {y : MethodName} {bytes cc : ByteArray} {maxL nL n index : Nat} {ret : Option FieldType} {ws : List Cond} {rm : Room} {Ts : List Cond} {own C host : String} {b : Nat} {As rest st0 : List Value}
variable {pc : Nat} {ls : Array Slot} {D : va_G} {cy : Nat → ClassId} {A : Nat → Prop} {H0 : Heap} {w wc w1 w' : List va_W}
/-- the places: the callee's blocks, and the new world -/
abbrev plc (w wc w1 w' : List va_W) (isC : List Nat) : Prop :=
  isC.map (fun i => w[i]?) = wc.map some ∧ isC.length = w1.length ∧ putB w isC w1 = w' ∧ w1.map (List.map Prod.fst) = wc.map (List.map Prod.fst)
theorem ca_free (hD : va_D A (flat w)) (hS : va_S A H0 H locs) (hA : ∀ q, H0.size ≤ q → A q) (isC : List Nat) (hC : isC.map (fun i => w[i]?) = wc.map some) : ∀ q, va_A (flat wc) H.size q → A q := by
  intro q hq
  rcases hq with ⟨k, e, hk⟩ | hq
  · obtain ⟨j, i, b, h1, h2, -⟩ := flat_of hk
    obtain ⟨p, -, p2⟩ := atB hC h1
    exact (DB_flat.mp hD).2 p i b (q, e) p2 h2
  · exact hA q (Nat.le_trans hS.1 hq)
theorem ca_pre (hK : va_K D vwCl (tyL cy) s) (hN : NW s) (hP : va_P D vwCl (flat w) H) (hD : va_D A (flat w)) (isC : List Nat) (hC : isC.map (fun i => w[i]?) = wc.map some) (hn : va_nd isC = true) (av : List Value) :
    ∀ U : State, U.heap = H → s.WarmedH U.vm → va_Pc av (pr_ D cy (flat wc) H.size) av.toArray U := by
  intro U hU hW
  refine ⟨rfl, by rw [hU], ?_, va_K.moved hW.alike hK, DB_flat.mpr (DB_sub (DB_flat.mp hD) hC hn), NW.warm hW hN⟩
  rw [hU]
  refine PB_flat.mp (fun k b hk => ?_)
  obtain ⟨p, -, p2⟩ := atB hC hk
  exact PB_flat.mpr hP p b p2
theorem ca_preR {w wc : va_W} (hK : va_K D vwCl (tyL cy) s) (hN : NW s) (hP : va_P D vwCl w H) (hD : va_D A w) (isC : List Nat) (hC : isC.map (fun i => w[i]?) = wc.map some) (hn : va_nd isC = true) (av : List Value) :
    ∀ U : State, U.heap = H → s.WarmedH U.vm → va_Pc av (pr_ D cy wc H.size) av.toArray U := by
  intro U hU hW
  refine ⟨rfl, by rw [hU], ?_, va_K.moved hW.alike hK, (hD.sub isC hn hC).weaken (fun _ _ _ _ => trivial), NW.warm hW hN⟩
  rw [hU]
  intro k q hk
  have h1 : (wc.map some)[k]? = some (some q) := by rw [List.getElem?_map, hk]; rfl
  rw [← hC, List.getElem?_map] at h1
  cases hi : isC[k]? with
  | none => rw [hi] at h1; cases h1
  | some i =>
    rw [hi] at h1
    exact hP i q (Option.some.inj h1)
theorem fst_at {b c : va_W} (e : b.map Prod.fst = c.map Prod.fst) {i : Nat} {x : Nat × va_E} (h : b[i]? = some x) : ∃ y : Nat × va_E, c[i]? = some y ∧ y.1 = x.1 := by
  have h1 : (b.map Prod.fst)[i]? = some x.1 := by rw [List.getElem?_map, h]; rfl
  rw [e, List.getElem?_map] at h1
  cases h2 : c[i]? with
  | none => rw [h2] at h1; cases h1
  | some y => rw [h2] at h1; exact ⟨y, rfl, Option.some.inj h1⟩
theorem ca_post (hP : va_P D vwCl (flat w) H) (hD : va_D A (flat w)) {isC : List Nat} (pl : plc w wc w1 w' isC) {t : State} {H1 : Heap} (ht : t.heap = H1) (hB : po_ D cy (va_A (flat wc) H.size) (flat w1) () t) (hk1 : ∀ q : Nat, q < H.size → ¬ va_A (flat wc) H.size q → H1[q]? = H[q]?) : va_P D vwCl (flat w') H1 ∧ va_D A (flat w') := by
  obtain ⟨hC, hlen, hW, hfst⟩ := pl
  obtain ⟨hP1, -, -⟩ := hB
  rw [ht] at hP1
  have hDb := DB_flat.mp hD
  have hPb := PB_flat.mpr hP
  have hPb1 := PB_flat.mpr hP1
  have blk : ∀ (k : Nat) (b : va_W), w'[k]? = some b → ∃ b0 : va_W, w[k]? = some b0 ∧ b.map Prod.fst = b0.map Prod.fst := by
    intro k b hk
    rw [← hW] at hk
    rcases putB_spec isC w1 w hlen k b hk with ⟨j, h1, h2⟩ | ⟨h1, h2⟩
    · have h3 : (w1.map (List.map Prod.fst))[j]? = some (b.map Prod.fst) := by rw [List.getElem?_map, h2]; rfl
      rw [hfst, List.getElem?_map] at h3
      cases h4 : wc[j]? with
      | none => rw [h4] at h3; cases h3
      | some b0 =>
        rw [h4] at h3
        obtain ⟨i, i1, i2⟩ := atB hC h4
        rw [h1] at i1
        cases i1
        exact ⟨b0, i2, (Option.some.inj h3).symm⟩
    · exact ⟨b, h2, rfl⟩
  refine ⟨PB_flat.mp (fun k b hk => ?_), DB_flat.mpr ⟨fun k i k2 i2 b b2 x x2 h1 h2 h3 h4 e => ?_, fun k i b x h1 h2 => ?_⟩⟩
  · rw [← hW] at hk
    rcases putB_spec isC w1 w hlen k b hk with ⟨j, h1, h2⟩ | ⟨h1, h2⟩
    · exact hPb1 j b h2
    · intro i x hi
      have hat := hPb k b h2 i x hi
      refine hat.kept (hk1 x.1 hat.lt (fun ha => ?_))
      rcases ha with ⟨n, e, hn⟩ | ha
      · obtain ⟨j, i2, b2, a1, a2, -⟩ := flat_of hn
        obtain ⟨p, p1, p2⟩ := atB hC a1
        obtain ⟨rfl, -⟩ := hDb.1 k i p i2 b b2 x (x.1, e) h2 hi p2 a2 rfl
        exact h1 (List.mem_of_getElem? p1)
      · exact absurd hat.lt (by omega)
  · obtain ⟨c, c1, c2⟩ := blk k b h1
    obtain ⟨d, d1, d2⟩ := blk k2 b2 h3
    obtain ⟨y, y1, y2⟩ := fst_at c2 h2
    obtain ⟨z, z1, z2⟩ := fst_at d2 h4
    exact hDb.1 k i k2 i2 c d y z c1 y1 d1 z1 (by rw [y2, z2, e])
  · obtain ⟨c, c1, c2⟩ := blk k b h1
    obtain ⟨y, y1, y2⟩ := fst_at c2 h2
    rw [← y2]
    exact hDb.2 k i c y c1 y1
theorem ca_i {r : Int32} {a : Array Value} (hr : va_Run p l e R s m args below meth c H locs cells slots 0 0 (F0 m pc ls st0) rest (va_Qi (fun x (_ : Unit) => x = r) (po_ D cy (va_A (flat wc) H.size) (flat w1)) (va_A (flat wc) H.size) a) (va_A (flat wc) H.size))
    (hP : va_P D vwCl (flat w) H) (hD : va_D A (flat w)) (hS : va_S A H0 H locs) (hA : ∀ q, H0.size ≤ q → A q) (isC : List Nat) (pl : plc w wc w1 w' isC)
    (kk : ∀ (H1 : Heap) (locs1 : List Loc), va_P D vwCl (flat w') H1 → va_D A (flat w') → va_S A H0 H1 locs1 → W p l e R s m args below meth c H1 locs1 cells slots Q (F0 m (pc + 3) ls (.int r :: rest))) : W p l e R s m args below meth c H locs cells slots Q (F0 m pc ls st0) := by
  have hF := ca_free hD hS hA isC pl.1
  refine va_calli hr hS (fun q _ h => hF q h) hF (fun x u t H1 locs1 ht hvm hw hB hz1 hk1 hS1 => ?_)
  subst hw
  obtain ⟨hP2, hD2⟩ := ca_post hP hD pl ht hB hk1
  exact kk H1 locs1 hP2 hD2 hS1
theorem ca_z {r : Int32} {a : Array Value} (hr : va_Run p l e R s m args below meth c H locs cells slots 0 0 (F0 m pc ls st0) rest (va_Qi (fun x (_ : Unit) => x = r ∧ isb r = true) (po_ D cy (va_A (flat wc) H.size) (flat w1)) (va_A (flat wc) H.size) a) (va_A (flat wc) H.size))
    (hP : va_P D vwCl (flat w) H) (hD : va_D A (flat w)) (hS : va_S A H0 H locs) (hA : ∀ q, H0.size ≤ q → A q) (isC : List Nat) (pl : plc w wc w1 w' isC)
    (kk : isb r = true → ∀ (H1 : Heap) (locs1 : List Loc), va_P D vwCl (flat w') H1 → va_D A (flat w') → va_S A H0 H1 locs1 → W p l e R s m args below meth c H1 locs1 cells slots Q (F0 m (pc + 3) ls (.int r :: rest))) : W p l e R s m args below meth c H locs cells slots Q (F0 m pc ls st0) := by
  have hF := ca_free hD hS hA isC pl.1
  refine va_calli hr hS (fun q _ h => hF q h) hF (fun x u t H1 locs1 ht hvm hw hB hz1 hk1 hS1 => ?_)
  obtain ⟨rfl, hz⟩ := hw
  obtain ⟨hP2, hD2⟩ := ca_post hP hD pl ht hB hk1
  exact kk hz H1 locs1 hP2 hD2 hS1
theorem ca_l {r : Int64} {a : Array Value} (hr : va_Run p l e R s m args below meth c H locs cells slots 0 0 (F0 m pc ls st0) rest (va_Ql (fun x (_ : Unit) => x = r) (po_ D cy (va_A (flat wc) H.size) (flat w1)) (va_A (flat wc) H.size) a) (va_A (flat wc) H.size))
    (hP : va_P D vwCl (flat w) H) (hD : va_D A (flat w)) (hS : va_S A H0 H locs) (hA : ∀ q, H0.size ≤ q → A q) (isC : List Nat) (pl : plc w wc w1 w' isC)
    (kk : ∀ (H1 : Heap) (locs1 : List Loc), va_P D vwCl (flat w') H1 → va_D A (flat w') → va_S A H0 H1 locs1 → W p l e R s m args below meth c H1 locs1 cells slots Q (F0 m (pc + 3) ls (.long r :: rest))) : W p l e R s m args below meth c H locs cells slots Q (F0 m pc ls st0) := by
  have hF := ca_free hD hS hA isC pl.1
  refine va_calll hr hS (fun q _ h => hF q h) hF (fun x u t H1 locs1 ht hvm hw hB hz1 hk1 hS1 => ?_)
  subst hw
  obtain ⟨hP2, hD2⟩ := ca_post hP hD pl ht hB hk1
  exact kk H1 locs1 hP2 hD2 hS1
theorem ca_v {a : Array Value} (hr : va_Run p l e R s m args below meth c H locs cells slots 0 0 (F0 m pc ls st0) rest (va_Qv (fun (_ : Unit) => True) (po_ D cy (va_A (flat wc) H.size) (flat w1)) (va_A (flat wc) H.size) a) (va_A (flat wc) H.size))
    (hP : va_P D vwCl (flat w) H) (hD : va_D A (flat w)) (hS : va_S A H0 H locs) (hA : ∀ q, H0.size ≤ q → A q) (isC : List Nat) (pl : plc w wc w1 w' isC)
    (kk : ∀ (H1 : Heap) (locs1 : List Loc), va_P D vwCl (flat w') H1 → va_D A (flat w') → va_S A H0 H1 locs1 → W p l e R s m args below meth c H1 locs1 cells slots Q (F0 m (pc + 3) ls (rest))) : W p l e R s m args below meth c H locs cells slots Q (F0 m pc ls st0) := by
  have hF := ca_free hD hS hA isC pl.1
  refine va_callv hr hS (fun q _ h => hF q h) hF (fun u t H1 locs1 ht hvm hw hB hz1 hk1 hS1 => ?_)
  skip
  obtain ⟨hP2, hD2⟩ := ca_post hP hD pl ht hB hk1
  exact kk H1 locs1 hP2 hD2 hS1
/-- how a call is run: a virtual one, one of a nest mate, static ones -/
theorem rn_V {Qc : Array Value → State → Outcome → State → Prop} {free : Addr → Prop} (S : CallFix p m c cc nL s args Ts own) (hM : Met l y ws rm (va_Pc (.ref b :: As) (pr_ D cy (flat wc) H.size)) Qc 0 0 free) (cw : CallW R s args own C index y bytes maxL ret ws rm 0 0 n) (hK : va_K D vwCl (tyL cy) s) (hN : NW s) (hP : va_P D vwCl (flat w) H) (hD : va_D A (flat w)) (isC : List Nat) (hC : isC.map (fun i => w[i]?) = wc.map some) (hn : va_nd isC = true)
    {ci q0 : Nat} {q : vw_C} {fs : List Value} (hc : vwCl[ci]? = some q) (he : (flat w)[q0]? = some (b, .inr (ci, fs))) (hq : q.1 = C) (hl : As.length = n) (hsize : ls.size = nL) (hstack : st0 = As.reverse ++ .ref b :: rest) (hW : (rest.map fun v => v.category).sum ≤ 8) (hdg : decode cc pc = .ok (.invokevirtual index, 3)) (hf : cells ≤ R.cells ∧ slots ≤ R.slots) :
    va_Run p l e R s m args below meth c H locs cells slots 0 0 (F0 m pc ls st0) rest (Qc (Value.ref b :: As).toArray) free := by
  subst hq
  exact va_runV S hM cw ⟨pr_blind D cy (flat wc) H.size _, va_recv hK hP hc he, ca_pre hK hN hP hD isC hC hn _⟩ rfl hl hsize hstack (lv_room hW) hdg hf
theorem rn_VN {Qc : Array Value → State → Outcome → State → Prop} {free : Addr → Prop} (S : CallFix p m c cc nL s args Ts own) (hM : Met l y ws rm (va_Pc (.ref b :: As) (pr_ D cy (flat wc) H.size)) Qc 0 0 free) (cw : va_CN R s args own index y host bytes maxL ret ws rm 0 0 n ∧ (Cond.instanceMethod y).before args s = true ∧ (Cond.selects C y y).before args s = true) (hK : va_K D vwCl (tyL cy) s) (hN : NW s) (hP : va_P D vwCl (flat w) H) (hD : va_D A (flat w)) (isC : List Nat) (hC : isC.map (fun i => w[i]?) = wc.map some) (hn : va_nd isC = true)
    {ci q0 : Nat} {q : vw_C} {fs : List Value} (hc : vwCl[ci]? = some q) (he : (flat w)[q0]? = some (b, .inr (ci, fs))) (hq : q.1 = C) (hl : As.length = n) (hsize : ls.size = nL) (hstack : st0 = As.reverse ++ .ref b :: rest) (hW : (rest.map fun v => v.category).sum ≤ 8) (hdg : decode cc pc = .ok (.invokevirtual index, 3)) (hf : cells ≤ R.cells ∧ slots ≤ R.slots) :
    va_Run p l e R s m args below meth c H locs cells slots 0 0 (F0 m pc ls st0) rest (Qc (Value.ref b :: As).toArray) free := by
  subst hq
  exact va_runVN S hM cw ⟨pr_blind D cy (flat wc) H.size _, va_recv hK hP hc he, ca_pre hK hN hP hD isC hC hn _⟩ rfl hl hsize hstack (lv_room hW) hdg hf
theorem rn_S {Qc : Array Value → State → Outcome → State → Prop} {free : Addr → Prop} (S : CallFix p m c cc nL s args Ts own) (hM : Met l y ws rm (va_Pc As (pr_ D cy (flat wc) H.size)) Qc 0 0 free) (cw : CallB R s args own index y bytes maxL ret ws rm 0 0 n ∧ (Cond.static y).before args s = true) (hK : va_K D vwCl (tyL cy) s) (hN : NW s) (hP : va_P D vwCl (flat w) H) (hD : va_D A (flat w)) (isC : List Nat) (hC : isC.map (fun i => w[i]?) = wc.map some) (hn : va_nd isC = true)
    (hl : As.length = n) (hsize : ls.size = nL) (hstack : st0 = As.reverse ++ rest) (hW : (rest.map fun v => v.category).sum ≤ 8) (hdg : decode cc pc = .ok (.invokestatic index, 3)) (hf : cells ≤ R.cells ∧ slots ≤ R.slots) :
    va_Run p l e R s m args below meth c H locs cells slots 0 0 (F0 m pc ls st0) rest (Qc As.toArray) free :=
  va_runS S hM cw ⟨pr_blind D cy (flat wc) H.size _, ca_pre hK hN hP hD isC hC hn _⟩ rfl hl hsize hstack (lv_room hW) hdg hf
theorem rn_SN {Qc : Array Value → State → Outcome → State → Prop} {free : Addr → Prop} (S : CallFix p m c cc nL s args Ts own) (hM : Met l y ws rm (va_Pc As (pr_ D cy (flat wc) H.size)) Qc 0 0 free) (cw : va_CN R s args own index y host bytes maxL ret ws rm 0 0 n ∧ (Cond.static y).before args s = true ∧ True) (hK : va_K D vwCl (tyL cy) s) (hN : NW s) (hP : va_P D vwCl (flat w) H) (hD : va_D A (flat w)) (isC : List Nat) (hC : isC.map (fun i => w[i]?) = wc.map some) (hn : va_nd isC = true)
    (hl : As.length = n) (hsize : ls.size = nL) (hstack : st0 = As.reverse ++ rest) (hW : (rest.map fun v => v.category).sum ≤ 8) (hdg : decode cc pc = .ok (.invokestatic index, 3)) (hf : cells ≤ R.cells ∧ slots ≤ R.slots) :
    va_Run p l e R s m args below meth c H locs cells slots 0 0 (F0 m pc ls st0) rest (Qc As.toArray) free :=
  va_runSN S hM cw ⟨pr_blind D cy (flat wc) H.size _, ca_pre hK hN hP hD isC hC hn _⟩ rfl hl hsize hstack (lv_room hW) hdg hf
end CALLS
