/-! ===== the nest mates' links, contracts and calls ===== -/
def nwF : List (String × Nat × String × String × String × String) := [("KneeBench$BenchText", 95, "KneeBench$Bench", "names", "[J", "KneeBench"), ("KneeBench$BenchText", 110, "KneeBench$Bench", "lags", "[I", "KneeBench"), ("KneeBench", 218, "KneeBench$Bench", "lags", "[I", "KneeBench"), ("KneeBench$BenchText", 117, "KneeBench$Bench", "fails", "[I", "KneeBench"), ("KneeBench", 221, "KneeBench$Bench", "fails", "[I", "KneeBench"), ("KneeBench$BenchText", 120, "KneeBench$Bench", "falses", "[I", "KneeBench"), ("KneeBench$Life", 115, "KneeBench$Bench", "falses", "[I", "KneeBench"), ("KneeBench", 224, "KneeBench$Bench", "falses", "[I", "KneeBench"), ("KneeBench$BenchText", 126, "KneeBench$Bench", "cures", "[I", "KneeBench"), ("KneeBench$Life", 112, "KneeBench$Bench", "cures", "[I", "KneeBench"), ("KneeBench", 234, "KneeBench$Bench", "cures", "[I", "KneeBench"), ("KneeBench$Life", 84, "KneeBench$Bench", "weights", "[I", "KneeBench"), ("KneeBench", 237, "KneeBench$Bench", "weights", "[I", "KneeBench"), ("KneeBench", 240, "KneeBench$Bench", "twinges", "[J", "KneeBench"), ("KneeBench$Seats", 22, "KneeBench$Bench", "farmers", "I", "KneeBench"), ("KneeBench$BenchText", 78, "KneeBench$Bench", "farmers", "I", "KneeBench"), ("KneeBench", 178, "KneeBench$Bench", "farmers", "I", "KneeBench"), ("KneeBench$Life", 97, "KneeBench$Bench", "days", "I", "KneeBench"), ("KneeBench$BenchText", 146, "KneeBench$Bench", "days", "I", "KneeBench"), ("KneeBench", 197, "KneeBench$Bench", "days", "I", "KneeBench"), ("KneeBench", 200, "KneeBench$Bench", "wet", "J", "KneeBench"), ("KneeBench", 209, "KneeBench$Bench", "hail", "J", "KneeBench"), ("KneeBench$BenchText", 167, "KneeBench$Bench", "vote", "I", "KneeBench"), ("KneeBench", 212, "KneeBench$Bench", "vote", "I", "KneeBench"), ("KneeBench$BenchText", 123, "KneeBench$Bench", "elbows", "I", "KneeBench"), ("KneeBench$Life", 49, "KneeBench$Season", "kinds", "[I", "KneeBench"), ("KneeBench$SeasonText", 77, "KneeBench$Season", "kinds", "[I", "KneeBench"), ("KneeBench$Life", 87, "KneeBench$Season", "farmers", "[I", "KneeBench"), ("KneeBench$SeasonText", 127, "KneeBench$Season", "farmers", "[I", "KneeBench"), ("KneeBench$Life", 90, "KneeBench$Season", "signs", "[I", "KneeBench"), ("KneeBench$SeasonText", 115, "KneeBench$Season", "signs", "[I", "KneeBench"), ("KneeBench$Life", 67, "KneeBench$Season", "numbers", "[I", "KneeBench"), ("KneeBench$SeasonText", 121, "KneeBench$Season", "numbers", "[I", "KneeBench"), ("KneeBench$SeasonText", 80, "KneeBench$Season", "partners", "[I", "KneeBench"), ("KneeBench$Life", 64, "KneeBench$Season", "partners", "[I", "KneeBench"), ("KneeBench$Life", 44, "KneeBench$Season", "size", "I", "KneeBench"), ("KneeBench$SeasonText", 74, "KneeBench$Season", "size", "I", "KneeBench"), ("KneeBench$SeasonText", 89, "KneeBench$Season", "steps", "I", "KneeBench"), ("KneeBench", 188, "KneeBench$Season", "steps", "I", "KneeBench"), ("KneeBench$SeasonText", 67, "KneeBench$Season", "isThere", "Z", "KneeBench"), ("KneeBench", 391, "KneeBench$Season", "isThere", "Z", "KneeBench"), ("KneeBench", 150, "KneeBench$Trays", "sorts", "[I", "KneeBench"), ("KneeBench", 161, "KneeBench$Tokens", "filled", "I", "KneeBench"), ("KneeBench$BenchText", 152, "KneeBench$Tokens", "place", "I", "KneeBench"), ("KneeBench$BenchText", 149, "KneeBench$Tokens", "behind", "I", "KneeBench"), ("KneeBench$BenchText", 87, "KneeBench$Tokens", "word", "J", "KneeBench"), ("KneeBench$SeasonText", 49, "KneeBench$Tokens", "keyword", "I", "KneeBench"), ("KneeBench$BenchText", 51, "KneeBench$Tokens", "keyword", "I", "KneeBench"), ("KneeBench$SeasonText", 118, "KneeBench$Tokens", "value", "I", "KneeBench"), ("KneeBench$BenchText", 114, "KneeBench$Tokens", "number", "I", "KneeBench"), ("KneeBench$SeasonText", 124, "KneeBench$Tokens", "number", "I", "KneeBench"), ("KneeBench$BenchText", 133, "KneeBench$Tokens", "farmer", "I", "KneeBench"), ("KneeBench$SeasonText", 130, "KneeBench$Tokens", "farmer", "I", "KneeBench"), ("KneeBench", 191, "KneeBench$Tokens", "fault", "I", "KneeBench"), ("KneeBench", 194, "KneeBench$Tokens", "faultPlace", "I", "KneeBench"), ("KneeBench", 399, "KneeBench$Life", "steps", "I", "KneeBench"), ("KneeBench", 400, "KneeBench$Life", "missed", "I", "KneeBench"), ("KneeBench", 403, "KneeBench$Life", "newDays", "I", "KneeBench"), ("KneeBench", 406, "KneeBench$Life", "wetDays", "I", "KneeBench"), ("KneeBench", 409, "KneeBench$Life", "isCut", "Z", "KneeBench"), ("KneeBench", 348, "KneeBench$Seats", "row", "[I", "KneeBench"), ("KneeBench", 345, "KneeBench$Seats", "taken", "I", "KneeBench")]
def nwM : List (String × Nat × MethodName × String) := [("KneeBench", 9, ⟨"KneeBench$Bench", "<init>", "()V"⟩, "KneeBench"), ("KneeBench", 18, ⟨"KneeBench$Season", "<init>", "()V"⟩, "KneeBench"), ("KneeBench", 31, ⟨"KneeBench$Mark", "<init>", "()V"⟩, "KneeBench"), ("KneeBench$Mark", 9, ⟨"KneeBench$Bench", "<init>", "()V"⟩, "KneeBench"), ("KneeBench$Mark", 18, ⟨"KneeBench$Season", "<init>", "()V"⟩, "KneeBench"), ("KneeBench", 76, ⟨"KneeBench$Life", "<init>", "()V"⟩, "KneeBench"), ("KneeBench$Life", 11, ⟨"KneeBench$Draws", "<init>", "()V"⟩, "KneeBench"), ("KneeBench", 86, ⟨"KneeBench$Draws", "<init>", "()V"⟩, "KneeBench"), ("KneeBench", 93, ⟨"KneeBench$Seats", "<init>", "()V"⟩, "KneeBench"), ("KneeBench$BenchText", 102, ⟨"KneeBench", "bit", "(Z)I"⟩, "KneeBench"), ("KneeBench$Tokens", 95, ⟨"KneeBench", "outside", "(III)Z"⟩, "KneeBench"), ("KneeBench$BenchText", 163, ⟨"KneeBench", "outside", "(III)Z"⟩, "KneeBench"), ("KneeBench$Bench", 87, ⟨"KneeBench", "later", "(JI)J"⟩, "KneeBench"), ("KneeBench$Bench", 71, ⟨"KneeBench", "firstDays", "(I)J"⟩, "KneeBench"), ("KneeBench$Bench", 133, ⟨"KneeBench", "bit", "(Z)I"⟩, "KneeBench"), ("KneeBench$Life", 52, ⟨"KneeBench", "bit", "(Z)I"⟩, "KneeBench")]
abbrev nwFc (q : String × Nat × String × String × String × String) : Cond := .fieldLinkNest q.1 q.2.1 q.2.2.1 q.2.2.2.1 q.2.2.2.2.1 q.2.2.2.2.2
abbrev nwMc (q : String × Nat × MethodName × String) : Cond := .methodLinkNest q.1 q.2.1 q.2.2.1 q.2.2.2
/-- the links to nest mates' private members -/
def NW (U : State) : Prop := (∀ q ∈ nwF, va_Nw (nwFc q) U) ∧ ∀ q ∈ nwM, va_Nw (nwMc q) U
theorem NW.warm {s U : State} (hW : s.WarmedH U.vm) (h : NW s) : NW U := ⟨fun q hq => va_Nw.warmF hW (h.1 q hq), fun q hq => va_Nw.warmM hW (h.2 q hq)⟩
theorem NW.same {u U : State} (e : u.vm = U.vm) (h : NW u) : NW U := ⟨fun q hq => va_Nw.same rfl e (h.1 q hq), fun q hq => va_Nw.same rfl e (h.2 q hq)⟩
theorem NW.fld {s : State} (h : NW s) (i : Nat) {q : String × Nat × String × String × String × String} (hq : nwF[i]? = some q) (args : Array Value) : (nwFc q).before args s = true := va_Nw.use rfl (h.1 q (List.mem_of_getElem? hq))
theorem NW.met {s : State} (h : NW s) (i : Nat) {q : String × Nat × MethodName × String} (hq : nwM[i]? = some q) : va_Nw (nwMc q) s := h.2 q (List.mem_of_getElem? hq)
/-- the world before and behind a call -/
def pr_ (D : va_G) (cy : Nat → ClassId) (w : va_W) (sz : Nat) (U : State) : Prop := U.heap.size = sz ∧ va_P D vwCl w U.heap ∧ va_K D vwCl (tyL cy) U ∧ va_D (fun _ => True) w ∧ NW U
def po_ (D : va_G) (cy : Nat → ClassId) (A : Nat → Prop) (w : va_W) (_ : Unit) (t : State) : Prop := va_P D vwCl w t.heap ∧ va_K D vwCl (tyL cy) t ∧ va_D A w
theorem pr_blind (D : va_G) (cy : Nat → ClassId) (w : va_W) (sz : Nat) (av : List Value) : FrameBlind (va_Pc av (pr_ D cy w sz)) := fun a U g mk q => by
  obtain ⟨q0, q1, qP, qK, qD, qN⟩ := q
  exact ⟨q0, q1, qP, va_K.moved (u := U) (U := U.calling g mk a) (Vm.Alike.refl U.vm) qK, qD, NW.same (u := U) rfl qN⟩
/-- contracts: a method makes nothing, answers r, and turns the world w0 into w1 -/
abbrev CI (l : Launch) (D : va_G) (cy : Nat → ClassId) (y : MethodName) (ws : List Cond) (rm : Room) (av : List Value) (w0 w1 : va_W) (r : Int32) : Prop :=
  ∀ sz, Met l y ws rm (va_Pc av (pr_ D cy w0 sz)) (va_Qi (fun x (_ : Unit) => x = r) (po_ D cy (va_A w0 sz) w1) (va_A w0 sz)) 0 0 (va_A w0 sz)
abbrev CL (l : Launch) (D : va_G) (cy : Nat → ClassId) (y : MethodName) (ws : List Cond) (rm : Room) (av : List Value) (w0 w1 : va_W) (r : Int64) : Prop :=
  ∀ sz, Met l y ws rm (va_Pc av (pr_ D cy w0 sz)) (va_Ql (fun x (_ : Unit) => x = r) (po_ D cy (va_A w0 sz) w1) (va_A w0 sz)) 0 0 (va_A w0 sz)
abbrev CV (l : Launch) (D : va_G) (cy : Nat → ClassId) (y : MethodName) (ws : List Cond) (rm : Room) (av : List Value) (w0 w1 : va_W) : Prop :=
  ∀ sz, Met l y ws rm (va_Pc av (pr_ D cy w0 sz)) (va_Qv (fun (_ : Unit) => True) (po_ D cy (va_A w0 sz) w1) (va_A w0 sz)) 0 0 (va_A w0 sz)
section CALLS
variable {p : Program} {l : Launch} {e : Env} {R : Room} {s : State} {m : MethodId} {args : Array Value} {below : List Frame} {meth : Method} {c : Code} {H : Heap} {locs : List Loc} {cells slots : Nat} {Q : State → Prop}
variable {y : MethodName} {bytes cc : ByteArray} {maxL nL n index : Nat} {ret : Option FieldType} {ws : List Cond} {rm : Room} {Ts : List Cond} {own C host : String} {b : Nat} {As rest st0 : List Value}
variable {pc : Nat} {ls : Array Slot} {D : va_G} {cy : Nat → ClassId} {A : Nat → Prop} {H0 : Heap} {w wc w1 wr w' : va_W}
/-- the places: the callee's cells, the rest, and how the new world is read off rest and callee's -/
abbrev plc (w wc wr w1 w' : va_W) (isC isR isW : List Nat) : Prop :=
  isC.map (fun i => w[i]?) = wc.map some ∧ isR.map (fun i => w[i]?) = wr.map some ∧ va_nd isR = true ∧ (∀ i ∈ isR, i ∉ isC) ∧ isW.map (fun i => (wr ++ w1)[i]?) = w'.map some ∧ va_nd isW = true ∧ va_nd isC = true
theorem ca_pre (hK : va_K D vwCl (tyL cy) s) (hN : NW s) (hP : va_P D vwCl w H) (hD : va_D A w) (isC : List Nat) (hC : isC.map (fun i => w[i]?) = wc.map some) (hn : va_nd isC = true) (av : List Value) :
    ∀ U : State, U.heap = H → s.WarmedH U.vm → va_Pc av (pr_ D cy wc H.size) av.toArray U := by
  intro U hU hW
  refine ⟨rfl, by rw [hU], ?_, va_K.moved hW.alike hK, (hD.sub isC hn hC).weaken (fun _ _ _ _ => trivial), NW.warm hW hN⟩
  rw [hU]
  intro k q hk
  have h1 : (wc.map some)[k]? = some (some q) := by rw [List.getElem?_map, hk]; rfl
  rw [← hC, List.getElem?_map] at h1
  cases hi : isC[k]? with
  | none => rw [hi] at h1; cases h1
  | some i =>
    rw [hi] at h1
    exact hP i q (Option.some.inj h1)
theorem ca_post (hP : va_P D vwCl w H) (hD : va_D A w) (hS : va_S A H0 H locs) (hA : ∀ q, H0.size ≤ q → A q) {isC isR isW : List Nat} (pl : plc w wc wr w1 w' isC isR isW) {t : State} {H1 : Heap} (ht : t.heap = H1) (hB : po_ D cy (va_A wc H.size) w1 () t) (hk1 : ∀ q : Nat, q < H.size → ¬ va_A wc H.size q → H1[q]? = H[q]?) : va_P D vwCl w' H1 ∧ va_D A w' := by
  obtain ⟨hC, hR, hn, hdis, hW, hnW, -⟩ := pl
  obtain ⟨hP1, -, hD1⟩ := hB
  rw [ht] at hP1
  obtain ⟨hP2, hD2⟩ := va_join hP hD isC isR hC hR hn hdis hk1 (va_free hD hS hA isC hC) hP1 hD1
  refine ⟨?_, hD2.sub isW hnW hW⟩
  intro k q hk
  have h1 : (w'.map some)[k]? = some (some q) := by rw [List.getElem?_map, hk]; rfl
  rw [← hW, List.getElem?_map] at h1
  cases hi : isW[k]? with
  | none => rw [hi] at h1; cases h1
  | some i =>
    rw [hi] at h1
    exact hP2 i q (Option.some.inj h1)
theorem ca_i {r : Int32} {a : Array Value} (hr : va_Run p l e R s m args below meth c H locs cells slots 0 0 (F0 m pc ls st0) rest (va_Qi (fun x (_ : Unit) => x = r) (po_ D cy (va_A wc H.size) w1) (va_A wc H.size) a) (va_A wc H.size))
    (hP : va_P D vwCl w H) (hD : va_D A w) (hS : va_S A H0 H locs) (hA : ∀ q, H0.size ≤ q → A q) (isC isR isW : List Nat) (pl : plc w wc wr w1 w' isC isR isW)
    (kk : ∀ (H1 : Heap) (locs1 : List Loc), va_P D vwCl w' H1 → va_D A w' → va_S A H0 H1 locs1 → W p l e R s m args below meth c H1 locs1 cells slots Q (F0 m (pc + 3) ls (.int r :: rest))) : W p l e R s m args below meth c H locs cells slots Q (F0 m pc ls st0) := by
  have hF := va_free hD hS hA isC pl.1
  refine va_calli hr hS (fun q _ h => hF q h) hF (fun x u t H1 locs1 ht hvm hw hB hz1 hk1 hS1 => ?_)
  subst hw
  obtain ⟨hP2, hD2⟩ := ca_post hP hD hS hA pl ht hB hk1
  exact kk H1 locs1 hP2 hD2 hS1
theorem ca_l {r : Int64} {a : Array Value} (hr : va_Run p l e R s m args below meth c H locs cells slots 0 0 (F0 m pc ls st0) rest (va_Ql (fun x (_ : Unit) => x = r) (po_ D cy (va_A wc H.size) w1) (va_A wc H.size) a) (va_A wc H.size))
    (hP : va_P D vwCl w H) (hD : va_D A w) (hS : va_S A H0 H locs) (hA : ∀ q, H0.size ≤ q → A q) (isC isR isW : List Nat) (pl : plc w wc wr w1 w' isC isR isW)
    (kk : ∀ (H1 : Heap) (locs1 : List Loc), va_P D vwCl w' H1 → va_D A w' → va_S A H0 H1 locs1 → W p l e R s m args below meth c H1 locs1 cells slots Q (F0 m (pc + 3) ls (.long r :: rest))) : W p l e R s m args below meth c H locs cells slots Q (F0 m pc ls st0) := by
  have hF := va_free hD hS hA isC pl.1
  refine va_calll hr hS (fun q _ h => hF q h) hF (fun x u t H1 locs1 ht hvm hw hB hz1 hk1 hS1 => ?_)
  subst hw
  obtain ⟨hP2, hD2⟩ := ca_post hP hD hS hA pl ht hB hk1
  exact kk H1 locs1 hP2 hD2 hS1
theorem ca_v {a : Array Value} (hr : va_Run p l e R s m args below meth c H locs cells slots 0 0 (F0 m pc ls st0) rest (va_Qv (fun (_ : Unit) => True) (po_ D cy (va_A wc H.size) w1) (va_A wc H.size) a) (va_A wc H.size))
    (hP : va_P D vwCl w H) (hD : va_D A w) (hS : va_S A H0 H locs) (hA : ∀ q, H0.size ≤ q → A q) (isC isR isW : List Nat) (pl : plc w wc wr w1 w' isC isR isW)
    (kk : ∀ (H1 : Heap) (locs1 : List Loc), va_P D vwCl w' H1 → va_D A w' → va_S A H0 H1 locs1 → W p l e R s m args below meth c H1 locs1 cells slots Q (F0 m (pc + 3) ls rest)) : W p l e R s m args below meth c H locs cells slots Q (F0 m pc ls st0) := by
  have hF := va_free hD hS hA isC pl.1
  refine va_callv hr hS (fun q _ h => hF q h) hF (fun u t H1 locs1 ht hvm hw hB hz1 hk1 hS1 => ?_)
  obtain ⟨hP2, hD2⟩ := ca_post hP hD hS hA pl ht hB hk1
  exact kk H1 locs1 hP2 hD2 hS1
/-- how a call is run: a virtual one, one of a nest mate, static ones -/
theorem rn_V {Qc : Array Value → State → Outcome → State → Prop} {free : Addr → Prop} (S : CallFix p m c cc nL s args Ts own) (hM : Met l y ws rm (va_Pc (.ref b :: As) (pr_ D cy wc H.size)) Qc 0 0 free) (cw : CallW R s args own C index y bytes maxL ret ws rm 0 0 n) (hK : va_K D vwCl (tyL cy) s) (hN : NW s) (hP : va_P D vwCl w H) (hD : va_D A w) (isC : List Nat) (hC : isC.map (fun i => w[i]?) = wc.map some) (hn : va_nd isC = true)
    {ci q0 : Nat} {q : vw_C} {fs : List Value} (hc : vwCl[ci]? = some q) (he : w[q0]? = some (b, .inr (ci, fs))) (hq : q.1 = C) (hl : As.length = n) (hsize : ls.size = nL) (hstack : st0 = As.reverse ++ .ref b :: rest) (hW : (rest.map fun v => v.category).sum ≤ 8) (hdg : decode cc pc = .ok (.invokevirtual index, 3)) (hf : cells ≤ R.cells ∧ slots ≤ R.slots) :
    va_Run p l e R s m args below meth c H locs cells slots 0 0 (F0 m pc ls st0) rest (Qc (Value.ref b :: As).toArray) free := by
  subst hq
  exact va_runV S hM cw ⟨pr_blind D cy wc H.size _, va_recv hK hP hc he, ca_pre hK hN hP hD isC hC hn _⟩ rfl hl hsize hstack (lv_room hW) hdg hf
theorem rn_VN {Qc : Array Value → State → Outcome → State → Prop} {free : Addr → Prop} (S : CallFix p m c cc nL s args Ts own) (hM : Met l y ws rm (va_Pc (.ref b :: As) (pr_ D cy wc H.size)) Qc 0 0 free) (cw : va_CN R s args own index y host bytes maxL ret ws rm 0 0 n ∧ (Cond.instanceMethod y).before args s = true ∧ (Cond.selects C y y).before args s = true) (hK : va_K D vwCl (tyL cy) s) (hN : NW s) (hP : va_P D vwCl w H) (hD : va_D A w) (isC : List Nat) (hC : isC.map (fun i => w[i]?) = wc.map some) (hn : va_nd isC = true)
    {ci q0 : Nat} {q : vw_C} {fs : List Value} (hc : vwCl[ci]? = some q) (he : w[q0]? = some (b, .inr (ci, fs))) (hq : q.1 = C) (hl : As.length = n) (hsize : ls.size = nL) (hstack : st0 = As.reverse ++ .ref b :: rest) (hW : (rest.map fun v => v.category).sum ≤ 8) (hdg : decode cc pc = .ok (.invokevirtual index, 3)) (hf : cells ≤ R.cells ∧ slots ≤ R.slots) :
    va_Run p l e R s m args below meth c H locs cells slots 0 0 (F0 m pc ls st0) rest (Qc (Value.ref b :: As).toArray) free := by
  subst hq
  exact va_runVN S hM cw ⟨pr_blind D cy wc H.size _, va_recv hK hP hc he, ca_pre hK hN hP hD isC hC hn _⟩ rfl hl hsize hstack (lv_room hW) hdg hf
theorem rn_S {Qc : Array Value → State → Outcome → State → Prop} {free : Addr → Prop} (S : CallFix p m c cc nL s args Ts own) (hM : Met l y ws rm (va_Pc As (pr_ D cy wc H.size)) Qc 0 0 free) (cw : CallB R s args own index y bytes maxL ret ws rm 0 0 n ∧ (Cond.static y).before args s = true) (hK : va_K D vwCl (tyL cy) s) (hN : NW s) (hP : va_P D vwCl w H) (hD : va_D A w) (isC : List Nat) (hC : isC.map (fun i => w[i]?) = wc.map some) (hn : va_nd isC = true)
    (hl : As.length = n) (hsize : ls.size = nL) (hstack : st0 = As.reverse ++ rest) (hW : (rest.map fun v => v.category).sum ≤ 8) (hdg : decode cc pc = .ok (.invokestatic index, 3)) (hf : cells ≤ R.cells ∧ slots ≤ R.slots) :
    va_Run p l e R s m args below meth c H locs cells slots 0 0 (F0 m pc ls st0) rest (Qc As.toArray) free :=
  va_runS S hM cw ⟨pr_blind D cy wc H.size _, ca_pre hK hN hP hD isC hC hn _⟩ rfl hl hsize hstack (lv_room hW) hdg hf
theorem rn_SN {Qc : Array Value → State → Outcome → State → Prop} {free : Addr → Prop} (S : CallFix p m c cc nL s args Ts own) (hM : Met l y ws rm (va_Pc As (pr_ D cy wc H.size)) Qc 0 0 free) (cw : va_CN R s args own index y host bytes maxL ret ws rm 0 0 n ∧ (Cond.static y).before args s = true ∧ True) (hK : va_K D vwCl (tyL cy) s) (hN : NW s) (hP : va_P D vwCl w H) (hD : va_D A w) (isC : List Nat) (hC : isC.map (fun i => w[i]?) = wc.map some) (hn : va_nd isC = true)
    (hl : As.length = n) (hsize : ls.size = nL) (hstack : st0 = As.reverse ++ rest) (hW : (rest.map fun v => v.category).sum ≤ 8) (hdg : decode cc pc = .ok (.invokestatic index, 3)) (hf : cells ≤ R.cells ∧ slots ≤ R.slots) :
    va_Run p l e R s m args below meth c H locs cells slots 0 0 (F0 m pc ls st0) rest (Qc As.toArray) free :=
  va_runSN S hM cw ⟨pr_blind D cy wc H.size _, ca_pre hK hN hP hD isC hC hn _⟩ rfl hl hsize hstack (lv_room hW) hdg hf
end CALLS
