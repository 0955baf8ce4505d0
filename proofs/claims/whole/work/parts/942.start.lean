set_option maxRecDepth 100000 in
theorem SX_of {s : State} {args : Array Value} {A : Nat → Prop} (hts : ∀ w ∈ lw_tbl, w.before args s = true) (hgv : (Jvm.Cond.and given_1 narrow_1).before args s = true) (hA : ∀ a : Nat, a < s.heap.size → ¬ A a) : ∃ S, SX S A s s.heap := by
  have hs := flat_of_before _ hgv
  obtain ⟨q0, t0, a1, a2⟩ := lt0_of hts hs hA
  obtain ⟨q1, t1, b1, b2⟩ := lt1_of hts hs hA
  have z1 : va_Z "java/lang/String" "COMPACT_STRINGS" "Z" (.int 1) A s s.heap := va_Zof (hts (.laysStatic "java/lang/String" "COMPACT_STRINGS" "Z") (List.mem_of_getElem? (i := 310) (by decide +kernel))) (hts (.initialized "java/lang/String") (List.mem_of_getElem? (i := 116) (by decide +kernel))) (va_eqt (hs _ (by decide +kernel))) hA
  have z2 : va_Zq "jdk/internal/util/Preconditions" "SIOOBE_FORMATTER" "Ljava/util/function/BiFunction;" A s s.heap := va_Zqof (hts (.laysStatic "jdk/internal/util/Preconditions" "SIOOBE_FORMATTER" "Ljava/util/function/BiFunction;") (List.mem_of_getElem? (i := 326) (by decide +kernel))) (hts (.initialized "jdk/internal/util/Preconditions") (List.mem_of_getElem? (i := 118) (by decide +kernel))) (hs _ (by decide +kernel)) hA
  rcases z2 with z2 | ⟨t, z2⟩
  · exact ⟨adv [q0, t0, q1, t1, 0], ⟨a1, b1⟩, a2, b2, z1, z2⟩
  · exact ⟨adv [q0, t0, q1, t1, t + 1], ⟨a1, b1⟩, a2, b2, z1, z2⟩
