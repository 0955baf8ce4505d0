set_option maxRecDepth 20000 in
theorem nwF_in : ∀ w ∈ nwF.map nwFc, w ∈ lw_tbl := mem_2 chT chT_in _ [(1, 36), (1, 38), (1, 39), (1, 41), (1, 42), (1, 44), (1, 45), (1, 47), (1, 48), (1, 50), (1, 51), (1, 53), (1, 56), (1, 57), (1, 58), (1, 60), (1, 61), (1, 62), (1, 64), (1, 66), (1, 68), (1, 69), (1, 71), (1, 110), (1, 111), (1, 113), (1, 114), (1, 116), (1, 117), (1, 119), (1, 120), (1, 122), (1, 123), (1, 125), (1, 126), (1, 128), (1, 129), (1, 131), (1, 132), (1, 175), (2, 6), (2, 9), (2, 11), (2, 14), (2, 16), (2, 17), (2, 19), (2, 21), (2, 22), (2, 24), (2, 25), (2, 27), (2, 29), (2, 123), (2, 125), (2, 127), (2, 129), (2, 131), (2, 157), (2, 159)] (by decide +kernel)
set_option maxRecDepth 20000 in
theorem nwM_in : ∀ w ∈ nwM.map nwMc, w ∈ lw_tbl := mem_2 chT chT_in _ [(1, 31), (1, 105), (1, 152), (1, 157), (1, 159), (2, 106), (2, 112), (2, 148), (2, 151), (3, 138), (3, 145), (3, 198), (3, 223), (3, 233), (4, 234), (6, 58)] (by decide +kernel)
theorem NW_of {s : State} {args : Array Value} (hts : ∀ w ∈ lw_tbl, w.before args s = true) : NW s := ⟨fun q hq => va_Nw.of rfl (hts _ (nwF_in _ (List.mem_map.mpr ⟨q, hq, rfl⟩))), fun q hq => va_Nw.of rfl (hts _ (nwM_in _ (List.mem_map.mpr ⟨q, hq, rfl⟩)))⟩
set_option maxHeartbeats 4000000 in
theorem known_all {s : State} {args : Array Value} (hts : ∀ w ∈ lw_tbl, w.before args s = true) : ∃ D : va_G, ∀ (k : Nat) (q : vw_C), vwCl[k]? = some q → u_Kn s q.1 q.2.1 q.2.2 (D.1 k) (D.2 k) := by
  obtain ⟨cX0, iX0, hX0⟩ := u_known (C := RX0) (T := TX0) (N := 14) (n := 14) hts in_wsX00 (hts (.instantiable RX0 14) (List.mem_of_getElem? (i := 139) (by decide +kernel)))
  obtain ⟨cX1, iX1, hX1⟩ := u_known (C := RX1) (T := TX1) (N := 4) (n := 4) hts in_wsX10 (hts (.instantiable RX1 4) (List.mem_of_getElem? (i := 410) (by decide +kernel)))
  obtain ⟨cX2, iX2, hX2⟩ := u_known (C := RX2) (T := TX2) (N := 1) (n := 1) hts in_wsX20 (hts (.instantiable RX2 1) (List.mem_of_getElem? (i := 460) (by decide +kernel)))
  obtain ⟨cX3, iX3, hX3⟩ := u_known (C := RX3) (T := TX3) (N := 7) (n := 7) hts in_wsX30 (hts (.instantiable RX3 7) (List.mem_of_getElem? (i := 454) (by decide +kernel)))
  obtain ⟨cX4, iX4, hX4⟩ := u_known (C := RX4) (T := TX4) (N := 2) (n := 2) hts in_wsX40 (hts (.instantiable RX4 2) (List.mem_of_getElem? (i := 260) (by decide +kernel)))
  obtain ⟨cX5, iX5, hX5⟩ := u_known (C := RX5) (T := TX5) (N := 8) (n := 8) hts in_wsX50 (hts (.instantiable RX5 8) (List.mem_of_getElem? (i := 213) (by decide +kernel)))
  obtain ⟨cX6, iX6, hX6⟩ := u_known (C := RX6) (T := TX6) (N := 6) (n := 6) hts in_wsX60 (hts (.instantiable RX6 6) (List.mem_of_getElem? (i := 429) (by decide +kernel)))
  obtain ⟨cX7, iX7, hX7⟩ := u_known (C := RX7) (T := TX7) (N := 3) (n := 3) hts in_wsX70 (hts (.instantiable RX7 3) (List.mem_of_getElem? (i := 499) (by decide +kernel)))
  obtain ⟨cX8, iX8, hX8⟩ := u_known (C := RX8) (T := TX8) (N := 14) (n := 14) hts in_wsX80 (hts (.instantiable RX8 14) (List.mem_of_getElem? (i := 294) (by decide +kernel)))
  obtain ⟨cX9, iX9, hX9⟩ := u_known (C := RX9) (T := TX9) (N := 3) (n := 3) hts in_wsX90 (hts (.instantiable RX9 3) (List.mem_of_getElem? (i := 277) (by decide +kernel)))
  obtain ⟨cX10, iX10, hX10⟩ := u_known (C := RX10) (T := TX10) (N := 19) (n := 19) hts in_wsX100 (hts (.instantiable RX10 19) (List.mem_of_getElem? (i := 131) (by decide +kernel)))
  obtain ⟨cX11, iX11, hX11⟩ := u_known (C := RX11) (T := TX11) (N := 38) (n := 38) hts in_wsX110 (hts (.instantiable RX11 38) (List.mem_of_getElem? (i := 1435) (by decide +kernel)))
  refine ⟨(fun k => [cX0, cX1, cX2, cX3, cX4, cX5, cX6, cX7, cX8, cX9, cX10, cX11].getD k cX0, fun k => [iX0, iX1, iX2, iX3, iX4, iX5, iX6, iX7, iX8, iX9, iX10, iX11].getD k iX0), ?_⟩
  intro k q hq
  match k, hq with
  | 0, hq => cases hq; exact hX0
  | 1, hq => cases hq; exact hX1
  | 2, hq => cases hq; exact hX2
  | 3, hq => cases hq; exact hX3
  | 4, hq => cases hq; exact hX4
  | 5, hq => cases hq; exact hX5
  | 6, hq => cases hq; exact hX6
  | 7, hq => cases hq; exact hX7
  | 8, hq => cases hq; exact hX8
  | 9, hq => cases hq; exact hX9
  | 10, hq => cases hq; exact hX10
  | 11, hq => cases hq; exact hX11
  | k + 12, hq => cases hq
theorem arr_of {s : State} {args : Array Value} {ty : FieldType} (h : (Cond.arrayClass ty).before args s = true) : ∃ cA, ArrOfT s cA ty ∧ s.vm.findClass ("[" ++ ty.toString) = some cA := by
  obtain ⟨cA, kA, comp, h1, h2, h3⟩ := Cond.arrayClass_spec h
  exact ⟨cA, fun n z => ⟨fun k h => (by cases h), kA, h2, comp, h3⟩, h1⟩
theorem arrs_all {s : State} {args : Array Value} (hts : ∀ w ∈ lw_tbl, w.before args s = true) : ∃ cy : Nat → ClassId, ∀ (k : Nat) (q : ClassId × FieldType), (tyL cy)[k]? = some q → ArrOfT s q.1 q.2 ∧ va_RA s q.1 q.2 := by
  obtain ⟨c0, a0, b0⟩ := arr_of (hts (.arrayClass .byte) (List.mem_of_getElem? (i := 408) (by decide +kernel)))
  obtain ⟨c1, a1, b1⟩ := arr_of (hts (.arrayClass .int) (List.mem_of_getElem? (i := 211) (by decide +kernel)))
  obtain ⟨c2, a2, b2⟩ := arr_of (hts (.arrayClass .long) (List.mem_of_getElem? (i := 210) (by decide +kernel)))
  refine ⟨fun k => [c0, c1, c2].getD k c0, ?_⟩
  intro k q hq
  match k, hq with
  | 0, hq => cases hq; exact ⟨a0, b0⟩
  | 1, hq => cases hq; exact ⟨a1, b1⟩
  | 2, hq => cases hq; exact ⟨a2, b2⟩
  | k + 3, hq => cases hq

