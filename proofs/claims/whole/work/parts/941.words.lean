set_option maxRecDepth 100000 in
theorem el0k : ∀ j, j < 166 → (flatC (Jvm.Cond.and given_1 narrow_1))[13 + j]? = some (Cond.eq (.elem (.field (Term.string "KneeBench$Tokens" 59) "java/lang/String" "value" "[B") (.int (Int32.ofNat j))) (.int (by0.getD j 0))) := by decide +kernel
theorem el0 : ∀ j, j < 166 → Cond.eq (.elem (.field (Term.string "KneeBench$Tokens" 59) "java/lang/String" "value" "[B") (.int (Int32.ofNat j))) (.int (by0.getD j 0)) ∈ flatC (Jvm.Cond.and given_1 narrow_1) := fun j hj => List.mem_of_getElem? (el0k j hj)
set_option maxRecDepth 100000 in
theorem lt0_of {s : State} {args : Array Value} {A : Nat → Prop} (hts : ∀ w ∈ lw_tbl, w.before args s = true) (hs : ∀ c ∈ flatC (Jvm.Cond.and given_1 narrow_1), c.before args s = true) (hA : ∀ a : Nat, a < s.heap.size → ¬ A a) : ∃ q t, vk_R "KneeBench$Tokens" 59 tx0 q s ∧ LTx q t 166 by0 A s s.heap := by
  obtain ⟨adK, adV, h1, h2⟩ := vk_Sof (args := args) (s := s) (N := 1) (tm := fun _ => (Term.string "KneeBench$Tokens" 59)) (len := [166]) (byt := [by0]) (A := A) (fun i hi => by rw [show i = 0 by omega]; decide) (fun i hi => hs _ (by decide +kernel)) (fun i hi => hs _ (by decide +kernel)) (fun i hi => hs _ (by decide +kernel)) (fun i hi => by rw [show i = 0 by omega]; exact hs _ (by decide +kernel)) (fun i hi j hj => by
    have e : i = 0 := by omega
    subst e
    exact hs _ (el0 j hj)) (fun i j hi hj hij => absurd (show i = j by omega) hij) hA
  exact ⟨adK 0, adV 0, vk_R.of (hts (.stringRef "KneeBench$Tokens" 59 tx0) (List.mem_of_getElem? (i := 300) (by decide +kernel))) (h2 0 (by decide)), h1.1 0 (by decide)⟩
set_option maxRecDepth 100000 in
theorem el1k : ∀ j, j < 167 → (flatC (Jvm.Cond.and given_1 narrow_1))[183 + j]? = some (Cond.eq (.elem (.field (Term.string "KneeBenchModel" 168) "java/lang/String" "value" "[B") (.int (Int32.ofNat j))) (.int (by1.getD j 0))) := by decide +kernel
theorem el1 : ∀ j, j < 167 → Cond.eq (.elem (.field (Term.string "KneeBenchModel" 168) "java/lang/String" "value" "[B") (.int (Int32.ofNat j))) (.int (by1.getD j 0)) ∈ flatC (Jvm.Cond.and given_1 narrow_1) := fun j hj => List.mem_of_getElem? (el1k j hj)
set_option maxRecDepth 100000 in
theorem lt1_of {s : State} {args : Array Value} {A : Nat → Prop} (hts : ∀ w ∈ lw_tbl, w.before args s = true) (hs : ∀ c ∈ flatC (Jvm.Cond.and given_1 narrow_1), c.before args s = true) (hA : ∀ a : Nat, a < s.heap.size → ¬ A a) : ∃ q t, vk_R "KneeBenchModel" 168 tx1 q s ∧ LTx q t 167 by1 A s s.heap := by
  obtain ⟨adK, adV, h1, h2⟩ := vk_Sof (args := args) (s := s) (N := 1) (tm := fun _ => (Term.string "KneeBenchModel" 168)) (len := [167]) (byt := [by1]) (A := A) (fun i hi => by rw [show i = 0 by omega]; decide) (fun i hi => hs _ (by decide +kernel)) (fun i hi => hs _ (by decide +kernel)) (fun i hi => hs _ (by decide +kernel)) (fun i hi => by rw [show i = 0 by omega]; exact hs _ (by decide +kernel)) (fun i hi j hj => by
    have e : i = 0 := by omega
    subst e
    exact hs _ (el1 j hj)) (fun i j hi hj hij => absurd (show i = j by omega) hij) hA
  exact ⟨adK 0, adV 0, vk_R.of (hts (.stringRef "KneeBenchModel" 168 tx1) (List.mem_of_getElem? (i := 1646) (by decide +kernel))) (h2 0 (by decide)), h1.1 0 (by decide)⟩
