theorem dL_law_2000 : decode cL_law 2000 = .ok (.aload_n 1, 1) := by decide +kernel
theorem dL_law_2001 : decode cL_law 2001 = .ok (.invokevirtual 264, 3) := by decide +kernel
theorem dL_law_2004 : decode cL_law 2004 = .ok (.aload_n 2, 1) := by decide +kernel
theorem dL_law_2005 : decode cL_law 2005 = .ok (.invokevirtual 267, 3) := by decide +kernel
theorem dL_law_2008 : decode cL_law 2008 = .ok (.if_icmp .eq 202, 3) := by decide +kernel
set_option maxHeartbeats 8000000 in
set_option maxRecDepth 100000 in
theorem law_fever {Rel : (Nat → Rc) → Rc → Prop} (hB : BT_fever Rel) {p : Program} {l : Launch} {e : Env} {s : State} {m : MethodId} {below : List Frame} {meth : Method} {c : Code} {b L : Nat} {xs : Nat → Int32} {D : va_G} {cy : Nat → ClassId} {S : Nat → Nat} {A : Nat → Prop} {Q : State → Prop} {hk hm : Nat} {u v : Nat → Nat → Nat} (C : LC p s m meth c b L xs D cy S A) (hL : L ≤ 3072) {sg : Nat → Rc} {M : Rc} (hR : Rel sg M) {i : Nat} (hi : i + 6 ≤ L) {H : Heap} {locs : List Loc} {ls : Array Slot} (hl : lv_has ls 4 [(0, .ref b), (1, .ref hk), (2, .ref hm), (3, .int (nI i))]) (hP : va_P D vwCl (flat (LW cy hk u hm v sg M)) H) (hD : va_D A (flat (LW cy hk u hm v sg M))) (hS : va_S A s.heap H locs)
    (kk : ∀ (sg : Nat → Rc) (M : Rc) (H : Heap) (locs : List Loc), Rel sg M → va_P D vwCl (flat (LW cy hk u hm v sg M)) H → va_D A (flat (LW cy hk u hm v sg M)) → va_S A s.heap H locs → W p l e room_1 s m #[Value.ref b] below meth c H locs 113 16160 Q (F0 m 2210 ls [])) : W p l e room_1 s m #[Value.ref b] below meth c H locs 113 16160 Q (F0 m 2000 ls []) := by
  obtain ⟨hx, hb, hml, hown, hts, hK, hN, hSX, hX, hbl, hbA, hA⟩ := C
  refine lv_aload_n hx hb dL_law_2000 rfl (lv_at hl 1 rfl) ?_
  obtain ⟨r1, r2, h1, h2, e12, hRel⟩ := hB sg M hR
  refine ca_i (w' := LW cy hk u hm v (va_up sg 0 r1.2) M) (rn_V (As := []) (rest := []) ⟨hx, hb, hml, hown, hts⟩ (kX10_fever l D cy hk (u 0) (u 1) (sg 0) (sg 1) r1 h1 H.size) (cwV 0 hts gL_law_X10_fever rfl rfl rfl (by decide +kernel) ⟨Nat.le_of_ble_eq_true rfl, Nat.le_of_ble_eq_true rfl⟩) hK hN hP hD [0, 1] rfl rfl (ci := 10) (q0 := 0) rfl rfl rfl rfl hl.1 rfl (Nat.le_of_ble_eq_true rfl) dL_law_2001 ⟨Nat.le_refl _, Nat.le_refl _⟩) hP hD hS hA [0, 1] ⟨rfl, rfl, rfl, rfl⟩ (fun H locs hP hD hS => ?_)
  refine lv_aload_n hx hb dL_law_2004 rfl (lv_at hl 2 rfl) ?_
  refine ca_i (w' := LW cy hk u hm v (va_up sg 0 r1.2) r2.2) (rn_V (As := []) (rest := [.int r1.1]) ⟨hx, hb, hml, hown, hts⟩ (kX11_fever l D cy hm (v 0) M r2 h2 H.size) (cwV 0 hts gL_law_X11_fever rfl rfl rfl (by decide +kernel) ⟨Nat.le_of_ble_eq_true rfl, Nat.le_of_ble_eq_true rfl⟩) hK hN hP hD [24] rfl rfl (ci := 11) (q0 := 99) rfl rfl rfl rfl hl.1 rfl (Nat.le_of_ble_eq_true rfl) dL_law_2005 ⟨Nat.le_refl _, Nat.le_refl _⟩) hP hD hS hA [24] ⟨rfl, rfl, rfl, rfl⟩ (fun H locs hP hD hS => ?_)
  refine lv_icmp_eq (tgt := 2210) hx hb dL_law_2008 (by decide) (fun _ => ?_) (fun z => absurd e12 z)
  exact kk _ _ H locs hRel hP hD hS
theorem dL_law_2013 : decode cL_law 2013 = .ok (.aload_n 1, 1) := by decide +kernel
theorem dL_law_2014 : decode cL_law 2014 = .ok (.aload_n 0, 1) := by decide +kernel
theorem dL_law_2015 : decode cL_law 2015 = .ok (.iload_n 3, 1) := by decide +kernel
theorem dL_law_2016 : decode cL_law 2016 = .ok (.iconst 1, 1) := by decide +kernel
theorem dL_law_2017 : decode cL_law 2017 = .ok (.iadd, 1) := by decide +kernel
theorem dL_law_2018 : decode cL_law 2018 = .ok (.iaload, 1) := by decide +kernel
theorem dL_law_2019 : decode cL_law 2019 = .ok (.invokevirtual 268, 3) := by decide +kernel
theorem dL_law_2022 : decode cL_law 2022 = .ok (.aload_n 2, 1) := by decide +kernel
theorem dL_law_2023 : decode cL_law 2023 = .ok (.aload_n 0, 1) := by decide +kernel
theorem dL_law_2024 : decode cL_law 2024 = .ok (.iload_n 3, 1) := by decide +kernel
theorem dL_law_2025 : decode cL_law 2025 = .ok (.iconst 1, 1) := by decide +kernel
theorem dL_law_2026 : decode cL_law 2026 = .ok (.iadd, 1) := by decide +kernel
theorem dL_law_2027 : decode cL_law 2027 = .ok (.iaload, 1) := by decide +kernel
theorem dL_law_2028 : decode cL_law 2028 = .ok (.invokevirtual 271, 3) := by decide +kernel
theorem dL_law_2031 : decode cL_law 2031 = .ok (.if_icmp .eq 179, 3) := by decide +kernel
set_option maxHeartbeats 8000000 in
set_option maxRecDepth 100000 in
theorem law_lies {Rel : (Nat → Rc) → Rc → Prop} (hB : BT_lies Rel) {p : Program} {l : Launch} {e : Env} {s : State} {m : MethodId} {below : List Frame} {meth : Method} {c : Code} {b L : Nat} {xs : Nat → Int32} {D : va_G} {cy : Nat → ClassId} {S : Nat → Nat} {A : Nat → Prop} {Q : State → Prop} {hk hm : Nat} {u v : Nat → Nat → Nat} (C : LC p s m meth c b L xs D cy S A) (hL : L ≤ 3072) {sg : Nat → Rc} {M : Rc} (hR : Rel sg M) {i : Nat} (hi : i + 6 ≤ L) {H : Heap} {locs : List Loc} {ls : Array Slot} (hl : lv_has ls 4 [(0, .ref b), (1, .ref hk), (2, .ref hm), (3, .int (nI i))]) (hP : va_P D vwCl (flat (LW cy hk u hm v sg M)) H) (hD : va_D A (flat (LW cy hk u hm v sg M))) (hS : va_S A s.heap H locs)
    (kk : ∀ (sg : Nat → Rc) (M : Rc) (H : Heap) (locs : List Loc), Rel sg M → va_P D vwCl (flat (LW cy hk u hm v sg M)) H → va_D A (flat (LW cy hk u hm v sg M)) → va_S A s.heap H locs → W p l e room_1 s m #[Value.ref b] below meth c H locs 113 16160 Q (F0 m 2210 ls [])) : W p l e room_1 s m #[Value.ref b] below meth c H locs 113 16160 Q (F0 m 2013 ls []) := by
  obtain ⟨hx, hb, hml, hown, hts, hK, hN, hSX, hX, hbl, hbA, hA⟩ := C
  refine lv_aload_n hx hb dL_law_2013 rfl (lv_at hl 1 rfl) ?_
  refine lv_aload_n hx hb dL_law_2014 rfl (lv_at hl 0 rfl) ?_
  refine lv_iload_n hx hb dL_law_2015 rfl (lv_at hl 3 rfl) ?_
  refine lv_iconst (v := 1) hx hb dL_law_2016 (by decide) ?_
  refine lv_iadd hx hb dL_law_2017 ?_
  refine va_sld hx hb hX hbl hbA hS (ix_in (k := 1) hi (by decide) hL) dL_law_2018 ?_
  obtain ⟨r1, r2, h1, h2, e12, hRel⟩ := hB sg M hR (xs (nI i + (1 : Int32)).toNatClampNeg)
  refine ca_i (w' := LW cy hk u hm v (va_up sg 0 r1.2) M) (rn_V (As := [.int (xs (nI i + (1 : Int32)).toNatClampNeg)]) (rest := []) ⟨hx, hb, hml, hown, hts⟩ (kX10_lies l D cy hk (u 0) (u 1) (sg 0) (sg 1) (xs (nI i + (1 : Int32)).toNatClampNeg) r1 h1 H.size) (cwV 1 hts gL_law_X10_lies rfl rfl rfl (by decide +kernel) ⟨Nat.le_of_ble_eq_true rfl, Nat.le_of_ble_eq_true rfl⟩) hK hN hP hD [0, 1] rfl rfl (ci := 10) (q0 := 0) rfl rfl rfl rfl hl.1 rfl (Nat.le_of_ble_eq_true rfl) dL_law_2019 ⟨Nat.le_refl _, Nat.le_refl _⟩) hP hD hS hA [0, 1] ⟨rfl, rfl, rfl, rfl⟩ (fun H locs hP hD hS => ?_)
  refine lv_aload_n hx hb dL_law_2022 rfl (lv_at hl 2 rfl) ?_
  refine lv_aload_n hx hb dL_law_2023 rfl (lv_at hl 0 rfl) ?_
  refine lv_iload_n hx hb dL_law_2024 rfl (lv_at hl 3 rfl) ?_
  refine lv_iconst (v := 1) hx hb dL_law_2025 (by decide) ?_
  refine lv_iadd hx hb dL_law_2026 ?_
  refine va_sld hx hb hX hbl hbA hS (ix_in (k := 1) hi (by decide) hL) dL_law_2027 ?_
  refine ca_i (w' := LW cy hk u hm v (va_up sg 0 r1.2) r2.2) (rn_V (As := [.int (xs (nI i + (1 : Int32)).toNatClampNeg)]) (rest := [.int r1.1]) ⟨hx, hb, hml, hown, hts⟩ (kX11_lies l D cy hm (v 0) M (xs (nI i + (1 : Int32)).toNatClampNeg) r2 h2 H.size) (cwV 1 hts gL_law_X11_lies rfl rfl rfl (by decide +kernel) ⟨Nat.le_of_ble_eq_true rfl, Nat.le_of_ble_eq_true rfl⟩) hK hN hP hD [24] rfl rfl (ci := 11) (q0 := 99) rfl rfl rfl rfl hl.1 rfl (Nat.le_of_ble_eq_true rfl) dL_law_2028 ⟨Nat.le_refl _, Nat.le_refl _⟩) hP hD hS hA [24] ⟨rfl, rfl, rfl, rfl⟩ (fun H locs hP hD hS => ?_)
  refine lv_icmp_eq (tgt := 2210) hx hb dL_law_2031 (by decide) (fun _ => ?_) (fun z => absurd e12 z)
  exact kk _ _ H locs hRel hP hD hS
theorem dL_law_2036 : decode cL_law 2036 = .ok (.aload_n 1, 1) := by decide +kernel
theorem dL_law_2037 : decode cL_law 2037 = .ok (.aload_n 0, 1) := by decide +kernel
theorem dL_law_2038 : decode cL_law 2038 = .ok (.iload_n 3, 1) := by decide +kernel
theorem dL_law_2039 : decode cL_law 2039 = .ok (.iconst 1, 1) := by decide +kernel
theorem dL_law_2040 : decode cL_law 2040 = .ok (.iadd, 1) := by decide +kernel
theorem dL_law_2041 : decode cL_law 2041 = .ok (.iaload, 1) := by decide +kernel
theorem dL_law_2042 : decode cL_law 2042 = .ok (.invokevirtual 272, 3) := by decide +kernel
theorem dL_law_2045 : decode cL_law 2045 = .ok (.aload_n 2, 1) := by decide +kernel
theorem dL_law_2046 : decode cL_law 2046 = .ok (.aload_n 0, 1) := by decide +kernel
theorem dL_law_2047 : decode cL_law 2047 = .ok (.iload_n 3, 1) := by decide +kernel
theorem dL_law_2048 : decode cL_law 2048 = .ok (.iconst 1, 1) := by decide +kernel
theorem dL_law_2049 : decode cL_law 2049 = .ok (.iadd, 1) := by decide +kernel
theorem dL_law_2050 : decode cL_law 2050 = .ok (.iaload, 1) := by decide +kernel
theorem dL_law_2051 : decode cL_law 2051 = .ok (.invokevirtual 275, 3) := by decide +kernel
theorem dL_law_2054 : decode cL_law 2054 = .ok (.if_icmp .eq 156, 3) := by decide +kernel
set_option maxHeartbeats 8000000 in
set_option maxRecDepth 100000 in
theorem law_nextWrong {Rel : (Nat → Rc) → Rc → Prop} (hB : BT_nextWrong Rel) {p : Program} {l : Launch} {e : Env} {s : State} {m : MethodId} {below : List Frame} {meth : Method} {c : Code} {b L : Nat} {xs : Nat → Int32} {D : va_G} {cy : Nat → ClassId} {S : Nat → Nat} {A : Nat → Prop} {Q : State → Prop} {hk hm : Nat} {u v : Nat → Nat → Nat} (C : LC p s m meth c b L xs D cy S A) (hL : L ≤ 3072) {sg : Nat → Rc} {M : Rc} (hR : Rel sg M) {i : Nat} (hi : i + 6 ≤ L) {H : Heap} {locs : List Loc} {ls : Array Slot} (hl : lv_has ls 4 [(0, .ref b), (1, .ref hk), (2, .ref hm), (3, .int (nI i))]) (hP : va_P D vwCl (flat (LW cy hk u hm v sg M)) H) (hD : va_D A (flat (LW cy hk u hm v sg M))) (hS : va_S A s.heap H locs)
    (kk : ∀ (sg : Nat → Rc) (M : Rc) (H : Heap) (locs : List Loc), Rel sg M → va_P D vwCl (flat (LW cy hk u hm v sg M)) H → va_D A (flat (LW cy hk u hm v sg M)) → va_S A s.heap H locs → W p l e room_1 s m #[Value.ref b] below meth c H locs 113 16160 Q (F0 m 2210 ls [])) : W p l e room_1 s m #[Value.ref b] below meth c H locs 113 16160 Q (F0 m 2036 ls []) := by
  obtain ⟨hx, hb, hml, hown, hts, hK, hN, hSX, hX, hbl, hbA, hA⟩ := C
  refine lv_aload_n hx hb dL_law_2036 rfl (lv_at hl 1 rfl) ?_
  refine lv_aload_n hx hb dL_law_2037 rfl (lv_at hl 0 rfl) ?_
  refine lv_iload_n hx hb dL_law_2038 rfl (lv_at hl 3 rfl) ?_
  refine lv_iconst (v := 1) hx hb dL_law_2039 (by decide) ?_
  refine lv_iadd hx hb dL_law_2040 ?_
  refine va_sld hx hb hX hbl hbA hS (ix_in (k := 1) hi (by decide) hL) dL_law_2041 ?_
  obtain ⟨r1, r2, h1, h2, e12, hRel⟩ := hB sg M hR (xs (nI i + (1 : Int32)).toNatClampNeg)
  refine ca_i (w' := LW cy hk u hm v (va_up sg 0 r1.2) M) (rn_V (As := [.int (xs (nI i + (1 : Int32)).toNatClampNeg)]) (rest := []) ⟨hx, hb, hml, hown, hts⟩ (kX10_nextWrong l D cy hk (u 0) (u 1) (sg 0) (sg 1) (xs (nI i + (1 : Int32)).toNatClampNeg) r1 h1 H.size) (cwV 1 hts gL_law_X10_nextWrong rfl rfl rfl (by decide +kernel) ⟨Nat.le_of_ble_eq_true rfl, Nat.le_of_ble_eq_true rfl⟩) hK hN hP hD [0, 1] rfl rfl (ci := 10) (q0 := 0) rfl rfl rfl rfl hl.1 rfl (Nat.le_of_ble_eq_true rfl) dL_law_2042 ⟨Nat.le_refl _, Nat.le_refl _⟩) hP hD hS hA [0, 1] ⟨rfl, rfl, rfl, rfl⟩ (fun H locs hP hD hS => ?_)
  refine lv_aload_n hx hb dL_law_2045 rfl (lv_at hl 2 rfl) ?_
  refine lv_aload_n hx hb dL_law_2046 rfl (lv_at hl 0 rfl) ?_
  refine lv_iload_n hx hb dL_law_2047 rfl (lv_at hl 3 rfl) ?_
  refine lv_iconst (v := 1) hx hb dL_law_2048 (by decide) ?_
  refine lv_iadd hx hb dL_law_2049 ?_
  refine va_sld hx hb hX hbl hbA hS (ix_in (k := 1) hi (by decide) hL) dL_law_2050 ?_
  refine ca_i (w' := LW cy hk u hm v (va_up sg 0 r1.2) r2.2) (rn_V (As := [.int (xs (nI i + (1 : Int32)).toNatClampNeg)]) (rest := [.int r1.1]) ⟨hx, hb, hml, hown, hts⟩ (kX11_nextWrong l D cy hm (v 0) M (xs (nI i + (1 : Int32)).toNatClampNeg) r2 h2 H.size) (cwV 1 hts gL_law_X11_nextWrong rfl rfl rfl (by decide +kernel) ⟨Nat.le_of_ble_eq_true rfl, Nat.le_of_ble_eq_true rfl⟩) hK hN hP hD [24] rfl rfl (ci := 11) (q0 := 99) rfl rfl rfl rfl hl.1 rfl (Nat.le_of_ble_eq_true rfl) dL_law_2051 ⟨Nat.le_refl _, Nat.le_refl _⟩) hP hD hS hA [24] ⟨rfl, rfl, rfl, rfl⟩ (fun H locs hP hD hS => ?_)
  refine lv_icmp_eq (tgt := 2210) hx hb dL_law_2054 (by decide) (fun _ => ?_) (fun z => absurd e12 z)
  exact kk _ _ H locs hRel hP hD hS
theorem dL_law_2059 : decode cL_law 2059 = .ok (.aload_n 1, 1) := by decide +kernel
theorem dL_law_2060 : decode cL_law 2060 = .ok (.aload_n 0, 1) := by decide +kernel
theorem dL_law_2061 : decode cL_law 2061 = .ok (.iload_n 3, 1) := by decide +kernel
theorem dL_law_2062 : decode cL_law 2062 = .ok (.iconst 1, 1) := by decide +kernel
theorem dL_law_2063 : decode cL_law 2063 = .ok (.iadd, 1) := by decide +kernel
theorem dL_law_2064 : decode cL_law 2064 = .ok (.iaload, 1) := by decide +kernel
theorem dL_law_2065 : decode cL_law 2065 = .ok (.invokevirtual 276, 3) := by decide +kernel
theorem dL_law_2068 : decode cL_law 2068 = .ok (.aload_n 2, 1) := by decide +kernel
theorem dL_law_2069 : decode cL_law 2069 = .ok (.aload_n 0, 1) := by decide +kernel
theorem dL_law_2070 : decode cL_law 2070 = .ok (.iload_n 3, 1) := by decide +kernel
theorem dL_law_2071 : decode cL_law 2071 = .ok (.iconst 1, 1) := by decide +kernel
theorem dL_law_2072 : decode cL_law 2072 = .ok (.iadd, 1) := by decide +kernel
theorem dL_law_2073 : decode cL_law 2073 = .ok (.iaload, 1) := by decide +kernel
theorem dL_law_2074 : decode cL_law 2074 = .ok (.invokevirtual 279, 3) := by decide +kernel
theorem dL_law_2077 : decode cL_law 2077 = .ok (.if_icmp .eq 133, 3) := by decide +kernel
set_option maxHeartbeats 8000000 in
set_option maxRecDepth 100000 in
theorem law_warned {Rel : (Nat → Rc) → Rc → Prop} (hB : BT_warned Rel) {p : Program} {l : Launch} {e : Env} {s : State} {m : MethodId} {below : List Frame} {meth : Method} {c : Code} {b L : Nat} {xs : Nat → Int32} {D : va_G} {cy : Nat → ClassId} {S : Nat → Nat} {A : Nat → Prop} {Q : State → Prop} {hk hm : Nat} {u v : Nat → Nat → Nat} (C : LC p s m meth c b L xs D cy S A) (hL : L ≤ 3072) {sg : Nat → Rc} {M : Rc} (hR : Rel sg M) {i : Nat} (hi : i + 6 ≤ L) {H : Heap} {locs : List Loc} {ls : Array Slot} (hl : lv_has ls 4 [(0, .ref b), (1, .ref hk), (2, .ref hm), (3, .int (nI i))]) (hP : va_P D vwCl (flat (LW cy hk u hm v sg M)) H) (hD : va_D A (flat (LW cy hk u hm v sg M))) (hS : va_S A s.heap H locs)
    (kk : ∀ (sg : Nat → Rc) (M : Rc) (H : Heap) (locs : List Loc), Rel sg M → va_P D vwCl (flat (LW cy hk u hm v sg M)) H → va_D A (flat (LW cy hk u hm v sg M)) → va_S A s.heap H locs → W p l e room_1 s m #[Value.ref b] below meth c H locs 113 16160 Q (F0 m 2210 ls [])) : W p l e room_1 s m #[Value.ref b] below meth c H locs 113 16160 Q (F0 m 2059 ls []) := by
  obtain ⟨hx, hb, hml, hown, hts, hK, hN, hSX, hX, hbl, hbA, hA⟩ := C
  refine lv_aload_n hx hb dL_law_2059 rfl (lv_at hl 1 rfl) ?_
  refine lv_aload_n hx hb dL_law_2060 rfl (lv_at hl 0 rfl) ?_
  refine lv_iload_n hx hb dL_law_2061 rfl (lv_at hl 3 rfl) ?_
  refine lv_iconst (v := 1) hx hb dL_law_2062 (by decide) ?_
  refine lv_iadd hx hb dL_law_2063 ?_
  refine va_sld hx hb hX hbl hbA hS (ix_in (k := 1) hi (by decide) hL) dL_law_2064 ?_
  obtain ⟨r1, r2, h1, h2, e12, hRel⟩ := hB sg M hR (xs (nI i + (1 : Int32)).toNatClampNeg)
  refine ca_i (w' := LW cy hk u hm v (va_up sg 0 r1.2) M) (rn_V (As := [.int (xs (nI i + (1 : Int32)).toNatClampNeg)]) (rest := []) ⟨hx, hb, hml, hown, hts⟩ (kX10_warned l D cy hk (u 0) (u 1) (sg 0) (sg 1) (xs (nI i + (1 : Int32)).toNatClampNeg) r1 h1 H.size) (cwV 1 hts gL_law_X10_warned rfl rfl rfl (by decide +kernel) ⟨Nat.le_of_ble_eq_true rfl, Nat.le_of_ble_eq_true rfl⟩) hK hN hP hD [0, 1] rfl rfl (ci := 10) (q0 := 0) rfl rfl rfl rfl hl.1 rfl (Nat.le_of_ble_eq_true rfl) dL_law_2065 ⟨Nat.le_refl _, Nat.le_refl _⟩) hP hD hS hA [0, 1] ⟨rfl, rfl, rfl, rfl⟩ (fun H locs hP hD hS => ?_)
  refine lv_aload_n hx hb dL_law_2068 rfl (lv_at hl 2 rfl) ?_
  refine lv_aload_n hx hb dL_law_2069 rfl (lv_at hl 0 rfl) ?_
  refine lv_iload_n hx hb dL_law_2070 rfl (lv_at hl 3 rfl) ?_
  refine lv_iconst (v := 1) hx hb dL_law_2071 (by decide) ?_
  refine lv_iadd hx hb dL_law_2072 ?_
  refine va_sld hx hb hX hbl hbA hS (ix_in (k := 1) hi (by decide) hL) dL_law_2073 ?_
  refine ca_i (w' := LW cy hk u hm v (va_up sg 0 r1.2) r2.2) (rn_V (As := [.int (xs (nI i + (1 : Int32)).toNatClampNeg)]) (rest := [.int r1.1]) ⟨hx, hb, hml, hown, hts⟩ (kX11_warned l D cy hm (v 0) M (xs (nI i + (1 : Int32)).toNatClampNeg) r2 h2 H.size) (cwV 1 hts gL_law_X11_warned rfl rfl rfl (by decide +kernel) ⟨Nat.le_of_ble_eq_true rfl, Nat.le_of_ble_eq_true rfl⟩) hK hN hP hD [24] rfl rfl (ci := 11) (q0 := 99) rfl rfl rfl rfl hl.1 rfl (Nat.le_of_ble_eq_true rfl) dL_law_2074 ⟨Nat.le_refl _, Nat.le_refl _⟩) hP hD hS hA [24] ⟨rfl, rfl, rfl, rfl⟩ (fun H locs hP hD hS => ?_)
  refine lv_icmp_eq (tgt := 2210) hx hb dL_law_2077 (by decide) (fun _ => ?_) (fun z => absurd e12 z)
  exact kk _ _ H locs hRel hP hD hS
theorem dL_law_2082 : decode cL_law 2082 = .ok (.aload_n 1, 1) := by decide +kernel
theorem dL_law_2083 : decode cL_law 2083 = .ok (.aload_n 0, 1) := by decide +kernel
theorem dL_law_2084 : decode cL_law 2084 = .ok (.iload_n 3, 1) := by decide +kernel
theorem dL_law_2085 : decode cL_law 2085 = .ok (.iconst 1, 1) := by decide +kernel
theorem dL_law_2086 : decode cL_law 2086 = .ok (.iadd, 1) := by decide +kernel
theorem dL_law_2087 : decode cL_law 2087 = .ok (.iaload, 1) := by decide +kernel
theorem dL_law_2088 : decode cL_law 2088 = .ok (.invokevirtual 280, 3) := by decide +kernel
theorem dL_law_2091 : decode cL_law 2091 = .ok (.aload_n 2, 1) := by decide +kernel
theorem dL_law_2092 : decode cL_law 2092 = .ok (.aload_n 0, 1) := by decide +kernel
theorem dL_law_2093 : decode cL_law 2093 = .ok (.iload_n 3, 1) := by decide +kernel
theorem dL_law_2094 : decode cL_law 2094 = .ok (.iconst 1, 1) := by decide +kernel
theorem dL_law_2095 : decode cL_law 2095 = .ok (.iadd, 1) := by decide +kernel
theorem dL_law_2096 : decode cL_law 2096 = .ok (.iaload, 1) := by decide +kernel
theorem dL_law_2097 : decode cL_law 2097 = .ok (.invokevirtual 283, 3) := by decide +kernel
theorem dL_law_2100 : decode cL_law 2100 = .ok (.if_icmp .eq 110, 3) := by decide +kernel
set_option maxHeartbeats 8000000 in
set_option maxRecDepth 100000 in
theorem law_agrees {Rel : (Nat → Rc) → Rc → Prop} (hB : BT_agrees Rel) {p : Program} {l : Launch} {e : Env} {s : State} {m : MethodId} {below : List Frame} {meth : Method} {c : Code} {b L : Nat} {xs : Nat → Int32} {D : va_G} {cy : Nat → ClassId} {S : Nat → Nat} {A : Nat → Prop} {Q : State → Prop} {hk hm : Nat} {u v : Nat → Nat → Nat} (C : LC p s m meth c b L xs D cy S A) (hL : L ≤ 3072) {sg : Nat → Rc} {M : Rc} (hR : Rel sg M) {i : Nat} (hi : i + 6 ≤ L) {H : Heap} {locs : List Loc} {ls : Array Slot} (hl : lv_has ls 4 [(0, .ref b), (1, .ref hk), (2, .ref hm), (3, .int (nI i))]) (hP : va_P D vwCl (flat (LW cy hk u hm v sg M)) H) (hD : va_D A (flat (LW cy hk u hm v sg M))) (hS : va_S A s.heap H locs)
    (kk : ∀ (sg : Nat → Rc) (M : Rc) (H : Heap) (locs : List Loc), Rel sg M → va_P D vwCl (flat (LW cy hk u hm v sg M)) H → va_D A (flat (LW cy hk u hm v sg M)) → va_S A s.heap H locs → W p l e room_1 s m #[Value.ref b] below meth c H locs 113 16160 Q (F0 m 2210 ls [])) : W p l e room_1 s m #[Value.ref b] below meth c H locs 113 16160 Q (F0 m 2082 ls []) := by
  obtain ⟨hx, hb, hml, hown, hts, hK, hN, hSX, hX, hbl, hbA, hA⟩ := C
  refine lv_aload_n hx hb dL_law_2082 rfl (lv_at hl 1 rfl) ?_
  refine lv_aload_n hx hb dL_law_2083 rfl (lv_at hl 0 rfl) ?_
  refine lv_iload_n hx hb dL_law_2084 rfl (lv_at hl 3 rfl) ?_
  refine lv_iconst (v := 1) hx hb dL_law_2085 (by decide) ?_
  refine lv_iadd hx hb dL_law_2086 ?_
  refine va_sld hx hb hX hbl hbA hS (ix_in (k := 1) hi (by decide) hL) dL_law_2087 ?_
  obtain ⟨r1, r2, h1, h2, e12, hRel⟩ := hB sg M hR (xs (nI i + (1 : Int32)).toNatClampNeg)
  refine ca_i (w' := LW cy hk u hm v (va_up sg 0 r1.2) M) (rn_V (As := [.int (xs (nI i + (1 : Int32)).toNatClampNeg)]) (rest := []) ⟨hx, hb, hml, hown, hts⟩ (kX10_agrees l D cy hk (u 0) (u 1) (sg 0) (sg 1) (xs (nI i + (1 : Int32)).toNatClampNeg) r1 h1 H.size) (cwV 1 hts gL_law_X10_agrees rfl rfl rfl (by decide +kernel) ⟨Nat.le_of_ble_eq_true rfl, Nat.le_of_ble_eq_true rfl⟩) hK hN hP hD [0, 1] rfl rfl (ci := 10) (q0 := 0) rfl rfl rfl rfl hl.1 rfl (Nat.le_of_ble_eq_true rfl) dL_law_2088 ⟨Nat.le_refl _, Nat.le_refl _⟩) hP hD hS hA [0, 1] ⟨rfl, rfl, rfl, rfl⟩ (fun H locs hP hD hS => ?_)
  refine lv_aload_n hx hb dL_law_2091 rfl (lv_at hl 2 rfl) ?_
  refine lv_aload_n hx hb dL_law_2092 rfl (lv_at hl 0 rfl) ?_
  refine lv_iload_n hx hb dL_law_2093 rfl (lv_at hl 3 rfl) ?_
  refine lv_iconst (v := 1) hx hb dL_law_2094 (by decide) ?_
  refine lv_iadd hx hb dL_law_2095 ?_
  refine va_sld hx hb hX hbl hbA hS (ix_in (k := 1) hi (by decide) hL) dL_law_2096 ?_
  refine ca_i (w' := LW cy hk u hm v (va_up sg 0 r1.2) r2.2) (rn_V (As := [.int (xs (nI i + (1 : Int32)).toNatClampNeg)]) (rest := [.int r1.1]) ⟨hx, hb, hml, hown, hts⟩ (kX11_agrees l D cy hm (v 0) M (xs (nI i + (1 : Int32)).toNatClampNeg) r2 h2 H.size) (cwV 1 hts gL_law_X11_agrees rfl rfl rfl (by decide +kernel) ⟨Nat.le_of_ble_eq_true rfl, Nat.le_of_ble_eq_true rfl⟩) hK hN hP hD [24] rfl rfl (ci := 11) (q0 := 99) rfl rfl rfl rfl hl.1 rfl (Nat.le_of_ble_eq_true rfl) dL_law_2097 ⟨Nat.le_refl _, Nat.le_refl _⟩) hP hD hS hA [24] ⟨rfl, rfl, rfl, rfl⟩ (fun H locs hP hD hS => ?_)
  refine lv_icmp_eq (tgt := 2210) hx hb dL_law_2100 (by decide) (fun _ => ?_) (fun z => absurd e12 z)
  exact kk _ _ H locs hRel hP hD hS
theorem dL_law_2105 : decode cL_law 2105 = .ok (.aload_n 1, 1) := by decide +kernel
theorem dL_law_2106 : decode cL_law 2106 = .ok (.aload_n 0, 1) := by decide +kernel
theorem dL_law_2107 : decode cL_law 2107 = .ok (.iload_n 3, 1) := by decide +kernel
theorem dL_law_2108 : decode cL_law 2108 = .ok (.iconst 1, 1) := by decide +kernel
theorem dL_law_2109 : decode cL_law 2109 = .ok (.iadd, 1) := by decide +kernel
theorem dL_law_2110 : decode cL_law 2110 = .ok (.iaload, 1) := by decide +kernel
theorem dL_law_2111 : decode cL_law 2111 = .ok (.invokevirtual 284, 3) := by decide +kernel
theorem dL_law_2114 : decode cL_law 2114 = .ok (.aload_n 2, 1) := by decide +kernel
theorem dL_law_2115 : decode cL_law 2115 = .ok (.aload_n 0, 1) := by decide +kernel
theorem dL_law_2116 : decode cL_law 2116 = .ok (.iload_n 3, 1) := by decide +kernel
theorem dL_law_2117 : decode cL_law 2117 = .ok (.iconst 1, 1) := by decide +kernel
theorem dL_law_2118 : decode cL_law 2118 = .ok (.iadd, 1) := by decide +kernel
theorem dL_law_2119 : decode cL_law 2119 = .ok (.iaload, 1) := by decide +kernel
theorem dL_law_2120 : decode cL_law 2120 = .ok (.invokevirtual 287, 3) := by decide +kernel
theorem dL_law_2123 : decode cL_law 2123 = .ok (.if_icmp .eq 87, 3) := by decide +kernel
set_option maxHeartbeats 8000000 in
set_option maxRecDepth 100000 in
theorem law_live {Rel : (Nat → Rc) → Rc → Prop} (hB : BT_live Rel) {p : Program} {l : Launch} {e : Env} {s : State} {m : MethodId} {below : List Frame} {meth : Method} {c : Code} {b L : Nat} {xs : Nat → Int32} {D : va_G} {cy : Nat → ClassId} {S : Nat → Nat} {A : Nat → Prop} {Q : State → Prop} {hk hm : Nat} {u v : Nat → Nat → Nat} (C : LC p s m meth c b L xs D cy S A) (hL : L ≤ 3072) {sg : Nat → Rc} {M : Rc} (hR : Rel sg M) {i : Nat} (hi : i + 6 ≤ L) {H : Heap} {locs : List Loc} {ls : Array Slot} (hl : lv_has ls 4 [(0, .ref b), (1, .ref hk), (2, .ref hm), (3, .int (nI i))]) (hP : va_P D vwCl (flat (LW cy hk u hm v sg M)) H) (hD : va_D A (flat (LW cy hk u hm v sg M))) (hS : va_S A s.heap H locs)
    (kk : ∀ (sg : Nat → Rc) (M : Rc) (H : Heap) (locs : List Loc), Rel sg M → va_P D vwCl (flat (LW cy hk u hm v sg M)) H → va_D A (flat (LW cy hk u hm v sg M)) → va_S A s.heap H locs → W p l e room_1 s m #[Value.ref b] below meth c H locs 113 16160 Q (F0 m 2210 ls [])) : W p l e room_1 s m #[Value.ref b] below meth c H locs 113 16160 Q (F0 m 2105 ls []) := by
  obtain ⟨hx, hb, hml, hown, hts, hK, hN, hSX, hX, hbl, hbA, hA⟩ := C
  refine lv_aload_n hx hb dL_law_2105 rfl (lv_at hl 1 rfl) ?_
  refine lv_aload_n hx hb dL_law_2106 rfl (lv_at hl 0 rfl) ?_
  refine lv_iload_n hx hb dL_law_2107 rfl (lv_at hl 3 rfl) ?_
  refine lv_iconst (v := 1) hx hb dL_law_2108 (by decide) ?_
  refine lv_iadd hx hb dL_law_2109 ?_
  refine va_sld hx hb hX hbl hbA hS (ix_in (k := 1) hi (by decide) hL) dL_law_2110 ?_
  obtain ⟨r1, r2, h1, h2, e12, hRel⟩ := hB sg M hR (xs (nI i + (1 : Int32)).toNatClampNeg)
  refine ca_i (w' := LW cy hk u hm v (va_up (va_up (va_up (va_up sg 0 r1.2.1) 1 r1.2.2.1) 18 r1.2.2.2.1) 19 r1.2.2.2.2) M) (rn_V (As := [.int (xs (nI i + (1 : Int32)).toNatClampNeg)]) (rest := []) ⟨hx, hb, hml, hown, hts⟩ (kX10_live l D cy hk (u 0) (u 1) (u 2) (u 18) (u 19) (sg 0) (sg 1) (sg 2) (sg 18) (sg 19) (xs (nI i + (1 : Int32)).toNatClampNeg) r1 h1 H.size) (cwV 1 hts gL_law_X10_live rfl rfl rfl (by decide +kernel) ⟨Nat.le_of_ble_eq_true rfl, Nat.le_of_ble_eq_true rfl⟩) hK hN hP hD [0, 1, 2, 18, 19] rfl rfl (ci := 10) (q0 := 0) rfl rfl rfl rfl hl.1 rfl (Nat.le_of_ble_eq_true rfl) dL_law_2111 ⟨Nat.le_refl _, Nat.le_refl _⟩) hP hD hS hA [0, 1, 2, 18, 19] ⟨rfl, rfl, rfl, rfl⟩ (fun H locs hP hD hS => ?_)
  refine lv_aload_n hx hb dL_law_2114 rfl (lv_at hl 2 rfl) ?_
  refine lv_aload_n hx hb dL_law_2115 rfl (lv_at hl 0 rfl) ?_
  refine lv_iload_n hx hb dL_law_2116 rfl (lv_at hl 3 rfl) ?_
  refine lv_iconst (v := 1) hx hb dL_law_2117 (by decide) ?_
  refine lv_iadd hx hb dL_law_2118 ?_
  refine va_sld hx hb hX hbl hbA hS (ix_in (k := 1) hi (by decide) hL) dL_law_2119 ?_
  refine ca_i (w' := LW cy hk u hm v (va_up (va_up (va_up (va_up sg 0 r1.2.1) 1 r1.2.2.1) 18 r1.2.2.2.1) 19 r1.2.2.2.2) r2.2) (rn_V (As := [.int (xs (nI i + (1 : Int32)).toNatClampNeg)]) (rest := [.int r1.1]) ⟨hx, hb, hml, hown, hts⟩ (kX11_live l D cy hm (v 0) M (xs (nI i + (1 : Int32)).toNatClampNeg) r2 h2 H.size) (cwV 1 hts gL_law_X11_live rfl rfl rfl (by decide +kernel) ⟨Nat.le_of_ble_eq_true rfl, Nat.le_of_ble_eq_true rfl⟩) hK hN hP hD [24] rfl rfl (ci := 11) (q0 := 99) rfl rfl rfl rfl hl.1 rfl (Nat.le_of_ble_eq_true rfl) dL_law_2120 ⟨Nat.le_refl _, Nat.le_refl _⟩) hP hD hS hA [24] ⟨rfl, rfl, rfl, rfl⟩ (fun H locs hP hD hS => ?_)
  refine lv_icmp_eq (tgt := 2210) hx hb dL_law_2123 (by decide) (fun _ => ?_) (fun z => absurd e12 z)
  exact kk _ _ H locs hRel hP hD hS
theorem dL_law_2128 : decode cL_law 2128 = .ok (.aload_n 1, 1) := by decide +kernel
theorem dL_law_2129 : decode cL_law 2129 = .ok (.aload_n 0, 1) := by decide +kernel
theorem dL_law_2130 : decode cL_law 2130 = .ok (.iload_n 3, 1) := by decide +kernel
theorem dL_law_2131 : decode cL_law 2131 = .ok (.iconst 1, 1) := by decide +kernel
theorem dL_law_2132 : decode cL_law 2132 = .ok (.iadd, 1) := by decide +kernel
theorem dL_law_2133 : decode cL_law 2133 = .ok (.iaload, 1) := by decide +kernel
theorem dL_law_2134 : decode cL_law 2134 = .ok (.invokevirtual 288, 3) := by decide +kernel
theorem dL_law_2137 : decode cL_law 2137 = .ok (.aload_n 2, 1) := by decide +kernel
theorem dL_law_2138 : decode cL_law 2138 = .ok (.aload_n 0, 1) := by decide +kernel
theorem dL_law_2139 : decode cL_law 2139 = .ok (.iload_n 3, 1) := by decide +kernel
theorem dL_law_2140 : decode cL_law 2140 = .ok (.iconst 1, 1) := by decide +kernel
theorem dL_law_2141 : decode cL_law 2141 = .ok (.iadd, 1) := by decide +kernel
theorem dL_law_2142 : decode cL_law 2142 = .ok (.iaload, 1) := by decide +kernel
theorem dL_law_2143 : decode cL_law 2143 = .ok (.invokevirtual 291, 3) := by decide +kernel
theorem dL_law_2146 : decode cL_law 2146 = .ok (.if_icmp .eq 64, 3) := by decide +kernel
set_option maxHeartbeats 8000000 in
set_option maxRecDepth 100000 in
theorem law_lived {Rel : (Nat → Rc) → Rc → Prop} (hB : BT_lived Rel) {p : Program} {l : Launch} {e : Env} {s : State} {m : MethodId} {below : List Frame} {meth : Method} {c : Code} {b L : Nat} {xs : Nat → Int32} {D : va_G} {cy : Nat → ClassId} {S : Nat → Nat} {A : Nat → Prop} {Q : State → Prop} {hk hm : Nat} {u v : Nat → Nat → Nat} (C : LC p s m meth c b L xs D cy S A) (hL : L ≤ 3072) {sg : Nat → Rc} {M : Rc} (hR : Rel sg M) {i : Nat} (hi : i + 6 ≤ L) {H : Heap} {locs : List Loc} {ls : Array Slot} (hl : lv_has ls 4 [(0, .ref b), (1, .ref hk), (2, .ref hm), (3, .int (nI i))]) (hP : va_P D vwCl (flat (LW cy hk u hm v sg M)) H) (hD : va_D A (flat (LW cy hk u hm v sg M))) (hS : va_S A s.heap H locs)
    (kk : ∀ (sg : Nat → Rc) (M : Rc) (H : Heap) (locs : List Loc), Rel sg M → va_P D vwCl (flat (LW cy hk u hm v sg M)) H → va_D A (flat (LW cy hk u hm v sg M)) → va_S A s.heap H locs → W p l e room_1 s m #[Value.ref b] below meth c H locs 113 16160 Q (F0 m 2210 ls [])) : W p l e room_1 s m #[Value.ref b] below meth c H locs 113 16160 Q (F0 m 2128 ls []) := by
  obtain ⟨hx, hb, hml, hown, hts, hK, hN, hSX, hX, hbl, hbA, hA⟩ := C
  refine lv_aload_n hx hb dL_law_2128 rfl (lv_at hl 1 rfl) ?_
  refine lv_aload_n hx hb dL_law_2129 rfl (lv_at hl 0 rfl) ?_
  refine lv_iload_n hx hb dL_law_2130 rfl (lv_at hl 3 rfl) ?_
  refine lv_iconst (v := 1) hx hb dL_law_2131 (by decide) ?_
  refine lv_iadd hx hb dL_law_2132 ?_
  refine va_sld hx hb hX hbl hbA hS (ix_in (k := 1) hi (by decide) hL) dL_law_2133 ?_
  obtain ⟨r1, r2, h1, h2, e12, hRel⟩ := hB sg M hR (xs (nI i + (1 : Int32)).toNatClampNeg)
  refine ca_i (w' := LW cy hk u hm v (va_up sg 0 r1.2) M) (rn_V (As := [.int (xs (nI i + (1 : Int32)).toNatClampNeg)]) (rest := []) ⟨hx, hb, hml, hown, hts⟩ (kX10_lived l D cy hk (u 0) (u 18) (sg 0) (sg 18) (xs (nI i + (1 : Int32)).toNatClampNeg) r1 h1 H.size) (cwV 1 hts gL_law_X10_lived rfl rfl rfl (by decide +kernel) ⟨Nat.le_of_ble_eq_true rfl, Nat.le_of_ble_eq_true rfl⟩) hK hN hP hD [0, 18] rfl rfl (ci := 10) (q0 := 0) rfl rfl rfl rfl hl.1 rfl (Nat.le_of_ble_eq_true rfl) dL_law_2134 ⟨Nat.le_refl _, Nat.le_refl _⟩) hP hD hS hA [0, 18] ⟨rfl, rfl, rfl, rfl⟩ (fun H locs hP hD hS => ?_)
  refine lv_aload_n hx hb dL_law_2137 rfl (lv_at hl 2 rfl) ?_
  refine lv_aload_n hx hb dL_law_2138 rfl (lv_at hl 0 rfl) ?_
  refine lv_iload_n hx hb dL_law_2139 rfl (lv_at hl 3 rfl) ?_
  refine lv_iconst (v := 1) hx hb dL_law_2140 (by decide) ?_
  refine lv_iadd hx hb dL_law_2141 ?_
  refine va_sld hx hb hX hbl hbA hS (ix_in (k := 1) hi (by decide) hL) dL_law_2142 ?_
  refine ca_i (w' := LW cy hk u hm v (va_up sg 0 r1.2) r2.2) (rn_V (As := [.int (xs (nI i + (1 : Int32)).toNatClampNeg)]) (rest := [.int r1.1]) ⟨hx, hb, hml, hown, hts⟩ (kX11_lived l D cy hm (v 0) M (xs (nI i + (1 : Int32)).toNatClampNeg) r2 h2 H.size) (cwV 1 hts gL_law_X11_lived rfl rfl rfl (by decide +kernel) ⟨Nat.le_of_ble_eq_true rfl, Nat.le_of_ble_eq_true rfl⟩) hK hN hP hD [24] rfl rfl (ci := 11) (q0 := 99) rfl rfl rfl rfl hl.1 rfl (Nat.le_of_ble_eq_true rfl) dL_law_2143 ⟨Nat.le_refl _, Nat.le_refl _⟩) hP hD hS hA [24] ⟨rfl, rfl, rfl, rfl⟩ (fun H locs hP hD hS => ?_)
  refine lv_icmp_eq (tgt := 2210) hx hb dL_law_2146 (by decide) (fun _ => ?_) (fun z => absurd e12 z)
  exact kk _ _ H locs hRel hP hD hS
theorem dL_law_2151 : decode cL_law 2151 = .ok (.aload_n 1, 1) := by decide +kernel
theorem dL_law_2152 : decode cL_law 2152 = .ok (.aload_n 0, 1) := by decide +kernel
theorem dL_law_2153 : decode cL_law 2153 = .ok (.iload_n 3, 1) := by decide +kernel
theorem dL_law_2154 : decode cL_law 2154 = .ok (.iconst 1, 1) := by decide +kernel
theorem dL_law_2155 : decode cL_law 2155 = .ok (.iadd, 1) := by decide +kernel
theorem dL_law_2156 : decode cL_law 2156 = .ok (.iaload, 1) := by decide +kernel
theorem dL_law_2157 : decode cL_law 2157 = .ok (.aload_n 0, 1) := by decide +kernel
theorem dL_law_2158 : decode cL_law 2158 = .ok (.iload_n 3, 1) := by decide +kernel
theorem dL_law_2159 : decode cL_law 2159 = .ok (.iconst 2, 1) := by decide +kernel
theorem dL_law_2160 : decode cL_law 2160 = .ok (.iadd, 1) := by decide +kernel
theorem dL_law_2161 : decode cL_law 2161 = .ok (.iaload, 1) := by decide +kernel
theorem dL_law_2162 : decode cL_law 2162 = .ok (.invokevirtual 292, 3) := by decide +kernel
theorem dL_law_2165 : decode cL_law 2165 = .ok (.aload_n 2, 1) := by decide +kernel
theorem dL_law_2166 : decode cL_law 2166 = .ok (.aload_n 0, 1) := by decide +kernel
theorem dL_law_2167 : decode cL_law 2167 = .ok (.iload_n 3, 1) := by decide +kernel
theorem dL_law_2168 : decode cL_law 2168 = .ok (.iconst 1, 1) := by decide +kernel
theorem dL_law_2169 : decode cL_law 2169 = .ok (.iadd, 1) := by decide +kernel
theorem dL_law_2170 : decode cL_law 2170 = .ok (.iaload, 1) := by decide +kernel
theorem dL_law_2171 : decode cL_law 2171 = .ok (.aload_n 0, 1) := by decide +kernel
theorem dL_law_2172 : decode cL_law 2172 = .ok (.iload_n 3, 1) := by decide +kernel
theorem dL_law_2173 : decode cL_law 2173 = .ok (.iconst 2, 1) := by decide +kernel
theorem dL_law_2174 : decode cL_law 2174 = .ok (.iadd, 1) := by decide +kernel
theorem dL_law_2175 : decode cL_law 2175 = .ok (.iaload, 1) := by decide +kernel
theorem dL_law_2176 : decode cL_law 2176 = .ok (.invokevirtual 295, 3) := by decide +kernel
theorem dL_law_2179 : decode cL_law 2179 = .ok (.if_icmp .eq 31, 3) := by decide +kernel
set_option maxHeartbeats 8000000 in
set_option maxRecDepth 100000 in
theorem law_mean {Rel : (Nat → Rc) → Rc → Prop} (hB : BT_mean Rel) {p : Program} {l : Launch} {e : Env} {s : State} {m : MethodId} {below : List Frame} {meth : Method} {c : Code} {b L : Nat} {xs : Nat → Int32} {D : va_G} {cy : Nat → ClassId} {S : Nat → Nat} {A : Nat → Prop} {Q : State → Prop} {hk hm : Nat} {u v : Nat → Nat → Nat} (C : LC p s m meth c b L xs D cy S A) (hL : L ≤ 3072) {sg : Nat → Rc} {M : Rc} (hR : Rel sg M) {i : Nat} (hi : i + 6 ≤ L) {H : Heap} {locs : List Loc} {ls : Array Slot} (hl : lv_has ls 4 [(0, .ref b), (1, .ref hk), (2, .ref hm), (3, .int (nI i))]) (hP : va_P D vwCl (flat (LW cy hk u hm v sg M)) H) (hD : va_D A (flat (LW cy hk u hm v sg M))) (hS : va_S A s.heap H locs)
    (kk : ∀ (sg : Nat → Rc) (M : Rc) (H : Heap) (locs : List Loc), Rel sg M → va_P D vwCl (flat (LW cy hk u hm v sg M)) H → va_D A (flat (LW cy hk u hm v sg M)) → va_S A s.heap H locs → W p l e room_1 s m #[Value.ref b] below meth c H locs 113 16160 Q (F0 m 2210 ls [])) : W p l e room_1 s m #[Value.ref b] below meth c H locs 113 16160 Q (F0 m 2151 ls []) := by
  obtain ⟨hx, hb, hml, hown, hts, hK, hN, hSX, hX, hbl, hbA, hA⟩ := C
  refine lv_aload_n hx hb dL_law_2151 rfl (lv_at hl 1 rfl) ?_
  refine lv_aload_n hx hb dL_law_2152 rfl (lv_at hl 0 rfl) ?_
  refine lv_iload_n hx hb dL_law_2153 rfl (lv_at hl 3 rfl) ?_
  refine lv_iconst (v := 1) hx hb dL_law_2154 (by decide) ?_
  refine lv_iadd hx hb dL_law_2155 ?_
  refine va_sld hx hb hX hbl hbA hS (ix_in (k := 1) hi (by decide) hL) dL_law_2156 ?_
  refine lv_aload_n hx hb dL_law_2157 rfl (lv_at hl 0 rfl) ?_
  refine lv_iload_n hx hb dL_law_2158 rfl (lv_at hl 3 rfl) ?_
  refine lv_iconst (v := 2) hx hb dL_law_2159 (by decide) ?_
  refine lv_iadd hx hb dL_law_2160 ?_
  refine va_sld hx hb hX hbl hbA hS (ix_in (k := 2) hi (by decide) hL) dL_law_2161 ?_
  obtain ⟨r1, r2, h1, h2, e12, hRel⟩ := hB sg M hR (xs (nI i + (1 : Int32)).toNatClampNeg) (xs (nI i + (2 : Int32)).toNatClampNeg)
  refine ca_z (w' := LW cy hk u hm v (va_up (va_up (va_up (va_up sg 0 r1.2.1) 3 r1.2.2.1) 20 r1.2.2.2.1) 21 r1.2.2.2.2) M) (rn_V (As := [.int (xs (nI i + (1 : Int32)).toNatClampNeg), .int (xs (nI i + (2 : Int32)).toNatClampNeg)]) (rest := []) ⟨hx, hb, hml, hown, hts⟩ (kX10_mean l D cy hk (u 0) (u 1) (u 2) (u 3) (u 20) (u 21) (sg 0) (sg 1) (sg 2) (sg 3) (sg 20) (sg 21) (xs (nI i + (1 : Int32)).toNatClampNeg) (xs (nI i + (2 : Int32)).toNatClampNeg) r1 h1 H.size) (cwV 2 hts gL_law_X10_mean rfl rfl rfl (by decide +kernel) ⟨Nat.le_of_ble_eq_true rfl, Nat.le_of_ble_eq_true rfl⟩) hK hN hP hD [0, 1, 2, 3, 20, 21] rfl rfl (ci := 10) (q0 := 0) rfl rfl rfl rfl hl.1 rfl (Nat.le_of_ble_eq_true rfl) dL_law_2162 ⟨Nat.le_refl _, Nat.le_refl _⟩) hP hD hS hA [0, 1, 2, 3, 20, 21] ⟨rfl, rfl, rfl, rfl⟩ (fun _ H locs hP hD hS => ?_)
  refine lv_aload_n hx hb dL_law_2165 rfl (lv_at hl 2 rfl) ?_
  refine lv_aload_n hx hb dL_law_2166 rfl (lv_at hl 0 rfl) ?_
  refine lv_iload_n hx hb dL_law_2167 rfl (lv_at hl 3 rfl) ?_
  refine lv_iconst (v := 1) hx hb dL_law_2168 (by decide) ?_
  refine lv_iadd hx hb dL_law_2169 ?_
  refine va_sld hx hb hX hbl hbA hS (ix_in (k := 1) hi (by decide) hL) dL_law_2170 ?_
  refine lv_aload_n hx hb dL_law_2171 rfl (lv_at hl 0 rfl) ?_
  refine lv_iload_n hx hb dL_law_2172 rfl (lv_at hl 3 rfl) ?_
  refine lv_iconst (v := 2) hx hb dL_law_2173 (by decide) ?_
  refine lv_iadd hx hb dL_law_2174 ?_
  refine va_sld hx hb hX hbl hbA hS (ix_in (k := 2) hi (by decide) hL) dL_law_2175 ?_
  refine ca_z (w' := LW cy hk u hm v (va_up (va_up (va_up (va_up sg 0 r1.2.1) 3 r1.2.2.1) 20 r1.2.2.2.1) 21 r1.2.2.2.2) r2.2) (rn_V (As := [.int (xs (nI i + (1 : Int32)).toNatClampNeg), .int (xs (nI i + (2 : Int32)).toNatClampNeg)]) (rest := [.int r1.1]) ⟨hx, hb, hml, hown, hts⟩ (kX11_mean l D cy hm (v 0) M (xs (nI i + (1 : Int32)).toNatClampNeg) (xs (nI i + (2 : Int32)).toNatClampNeg) r2 h2 H.size) (cwV 2 hts gL_law_X11_mean rfl rfl rfl (by decide +kernel) ⟨Nat.le_of_ble_eq_true rfl, Nat.le_of_ble_eq_true rfl⟩) hK hN hP hD [24] rfl rfl (ci := 11) (q0 := 99) rfl rfl rfl rfl hl.1 rfl (Nat.le_of_ble_eq_true rfl) dL_law_2176 ⟨Nat.le_refl _, Nat.le_refl _⟩) hP hD hS hA [24] ⟨rfl, rfl, rfl, rfl⟩ (fun _ H locs hP hD hS => ?_)
  refine lv_icmp_eq (tgt := 2210) hx hb dL_law_2179 (by decide) (fun _ => ?_) (fun z => absurd e12 z)
  exact kk _ _ H locs hRel hP hD hS
theorem dL_law_2184 : decode cL_law 2184 = .ok (.aload_n 1, 1) := by decide +kernel
theorem dL_law_2185 : decode cL_law 2185 = .ok (.invokevirtual 296, 3) := by decide +kernel
theorem dL_law_2188 : decode cL_law 2188 = .ok (.aload_n 2, 1) := by decide +kernel
theorem dL_law_2189 : decode cL_law 2189 = .ok (.invokevirtual 299, 3) := by decide +kernel
theorem dL_law_2192 : decode cL_law 2192 = .ok (.if_icmp .eq 18, 3) := by decide +kernel
set_option maxHeartbeats 8000000 in
set_option maxRecDepth 100000 in
theorem law_mark {Rel : (Nat → Rc) → Rc → Prop} (hB : BT_mark Rel) {p : Program} {l : Launch} {e : Env} {s : State} {m : MethodId} {below : List Frame} {meth : Method} {c : Code} {b L : Nat} {xs : Nat → Int32} {D : va_G} {cy : Nat → ClassId} {S : Nat → Nat} {A : Nat → Prop} {Q : State → Prop} {hk hm : Nat} {u v : Nat → Nat → Nat} (C : LC p s m meth c b L xs D cy S A) (hL : L ≤ 3072) {sg : Nat → Rc} {M : Rc} (hR : Rel sg M) {i : Nat} (hi : i + 6 ≤ L) {H : Heap} {locs : List Loc} {ls : Array Slot} (hl : lv_has ls 4 [(0, .ref b), (1, .ref hk), (2, .ref hm), (3, .int (nI i))]) (hP : va_P D vwCl (flat (LW cy hk u hm v sg M)) H) (hD : va_D A (flat (LW cy hk u hm v sg M))) (hS : va_S A s.heap H locs)
    (kk : ∀ (sg : Nat → Rc) (M : Rc) (H : Heap) (locs : List Loc), Rel sg M → va_P D vwCl (flat (LW cy hk u hm v sg M)) H → va_D A (flat (LW cy hk u hm v sg M)) → va_S A s.heap H locs → W p l e room_1 s m #[Value.ref b] below meth c H locs 113 16160 Q (F0 m 2210 ls [])) : W p l e room_1 s m #[Value.ref b] below meth c H locs 113 16160 Q (F0 m 2184 ls []) := by
  obtain ⟨hx, hb, hml, hown, hts, hK, hN, hSX, hX, hbl, hbA, hA⟩ := C
  refine lv_aload_n hx hb dL_law_2184 rfl (lv_at hl 1 rfl) ?_
  obtain ⟨r1, r2, h1, h2, e12, hRel⟩ := hB sg M hR
  refine ca_i (w' := LW cy hk u hm v (va_up (va_up (va_up (va_up (va_up (va_up (va_up sg 0 r1.2.1) 6 r1.2.2.1) 7 r1.2.2.2.1) 9 r1.2.2.2.2.1) 10 r1.2.2.2.2.2.1) 12 r1.2.2.2.2.2.2.1) 13 r1.2.2.2.2.2.2.2) M) (rn_V (As := []) (rest := []) ⟨hx, hb, hml, hown, hts⟩ (kX10_mark l D cy hk (u 0) (u 1) (u 2) (u 5) (u 6) (u 7) (u 8) (u 9) (u 10) (u 11) (u 12) (u 13) (sg 0) (sg 1) (sg 2) (sg 5) (sg 6) (sg 7) (sg 8) (sg 9) (sg 10) (sg 11) (sg 12) (sg 13) r1 h1 H.size) (cwV 0 hts gL_law_X10_mark rfl rfl rfl (by decide +kernel) ⟨Nat.le_of_ble_eq_true rfl, Nat.le_of_ble_eq_true rfl⟩) hK hN hP hD [0, 1, 2, 5, 6, 7, 8, 9, 10, 11, 12, 13] rfl rfl (ci := 10) (q0 := 0) rfl rfl rfl rfl hl.1 rfl (Nat.le_of_ble_eq_true rfl) dL_law_2185 ⟨Nat.le_refl _, Nat.le_refl _⟩) hP hD hS hA [0, 1, 2, 5, 6, 7, 8, 9, 10, 11, 12, 13] ⟨rfl, rfl, rfl, rfl⟩ (fun H locs hP hD hS => ?_)
  refine lv_aload_n hx hb dL_law_2188 rfl (lv_at hl 2 rfl) ?_
  refine ca_i (w' := LW cy hk u hm v (va_up (va_up (va_up (va_up (va_up (va_up (va_up sg 0 r1.2.1) 6 r1.2.2.1) 7 r1.2.2.2.1) 9 r1.2.2.2.2.1) 10 r1.2.2.2.2.2.1) 12 r1.2.2.2.2.2.2.1) 13 r1.2.2.2.2.2.2.2) r2.2) (rn_V (As := []) (rest := [.int r1.1]) ⟨hx, hb, hml, hown, hts⟩ (kX11_mark l D cy hm (v 0) M r2 h2 H.size) (cwV 0 hts gL_law_X11_mark rfl rfl rfl (by decide +kernel) ⟨Nat.le_of_ble_eq_true rfl, Nat.le_of_ble_eq_true rfl⟩) hK hN hP hD [24] rfl rfl (ci := 11) (q0 := 99) rfl rfl rfl rfl hl.1 rfl (Nat.le_of_ble_eq_true rfl) dL_law_2189 ⟨Nat.le_refl _, Nat.le_refl _⟩) hP hD hS hA [24] ⟨rfl, rfl, rfl, rfl⟩ (fun H locs hP hD hS => ?_)
  refine lv_icmp_eq (tgt := 2210) hx hb dL_law_2192 (by decide) (fun _ => ?_) (fun z => absurd e12 z)
  exact kk _ _ H locs hRel hP hD hS
theorem dL_law_2197 : decode cL_law 2197 = .ok (.aload_n 1, 1) := by decide +kernel
theorem dL_law_2198 : decode cL_law 2198 = .ok (.invokevirtual 300, 3) := by decide +kernel
theorem dL_law_2201 : decode cL_law 2201 = .ok (.aload_n 2, 1) := by decide +kernel
theorem dL_law_2202 : decode cL_law 2202 = .ok (.invokevirtual 303, 3) := by decide +kernel
theorem dL_law_2205 : decode cL_law 2205 = .ok (.if_icmp .eq 5, 3) := by decide +kernel
set_option maxHeartbeats 8000000 in
set_option maxRecDepth 100000 in
theorem law_back {Rel : (Nat → Rc) → Rc → Prop} (hB : BT_back Rel) {p : Program} {l : Launch} {e : Env} {s : State} {m : MethodId} {below : List Frame} {meth : Method} {c : Code} {b L : Nat} {xs : Nat → Int32} {D : va_G} {cy : Nat → ClassId} {S : Nat → Nat} {A : Nat → Prop} {Q : State → Prop} {hk hm : Nat} {u v : Nat → Nat → Nat} (C : LC p s m meth c b L xs D cy S A) (hL : L ≤ 3072) {sg : Nat → Rc} {M : Rc} (hR : Rel sg M) {i : Nat} (hi : i + 6 ≤ L) {H : Heap} {locs : List Loc} {ls : Array Slot} (hl : lv_has ls 4 [(0, .ref b), (1, .ref hk), (2, .ref hm), (3, .int (nI i))]) (hP : va_P D vwCl (flat (LW cy hk u hm v sg M)) H) (hD : va_D A (flat (LW cy hk u hm v sg M))) (hS : va_S A s.heap H locs)
    (kk : ∀ (sg : Nat → Rc) (M : Rc) (H : Heap) (locs : List Loc), Rel sg M → va_P D vwCl (flat (LW cy hk u hm v sg M)) H → va_D A (flat (LW cy hk u hm v sg M)) → va_S A s.heap H locs → W p l e room_1 s m #[Value.ref b] below meth c H locs 113 16160 Q (F0 m 2210 ls [])) : W p l e room_1 s m #[Value.ref b] below meth c H locs 113 16160 Q (F0 m 2197 ls []) := by
  obtain ⟨hx, hb, hml, hown, hts, hK, hN, hSX, hX, hbl, hbA, hA⟩ := C
  refine lv_aload_n hx hb dL_law_2197 rfl (lv_at hl 1 rfl) ?_
  obtain ⟨r1, r2, h1, h2, e12, hRel⟩ := hB sg M hR
  refine ca_i (w' := LW cy hk u hm v (va_up (va_up (va_up sg 0 r1.2.1) 1 r1.2.2.1) 2 r1.2.2.2) M) (rn_V (As := []) (rest := []) ⟨hx, hb, hml, hown, hts⟩ (kX10_back l D cy hk (u 0) (u 1) (u 2) (u 5) (u 6) (u 7) (u 8) (u 9) (u 10) (u 11) (u 12) (u 13) (sg 0) (sg 1) (sg 2) (sg 5) (sg 6) (sg 7) (sg 8) (sg 9) (sg 10) (sg 11) (sg 12) (sg 13) r1 h1 H.size) (cwV 0 hts gL_law_X10_back rfl rfl rfl (by decide +kernel) ⟨Nat.le_of_ble_eq_true rfl, Nat.le_of_ble_eq_true rfl⟩) hK hN hP hD [0, 1, 2, 5, 6, 7, 8, 9, 10, 11, 12, 13] rfl rfl (ci := 10) (q0 := 0) rfl rfl rfl rfl hl.1 rfl (Nat.le_of_ble_eq_true rfl) dL_law_2198 ⟨Nat.le_refl _, Nat.le_refl _⟩) hP hD hS hA [0, 1, 2, 5, 6, 7, 8, 9, 10, 11, 12, 13] ⟨rfl, rfl, rfl, rfl⟩ (fun H locs hP hD hS => ?_)
  refine lv_aload_n hx hb dL_law_2201 rfl (lv_at hl 2 rfl) ?_
  refine ca_i (w' := LW cy hk u hm v (va_up (va_up (va_up sg 0 r1.2.1) 1 r1.2.2.1) 2 r1.2.2.2) r2.2) (rn_V (As := []) (rest := [.int r1.1]) ⟨hx, hb, hml, hown, hts⟩ (kX11_back l D cy hm (v 0) M r2 h2 H.size) (cwV 0 hts gL_law_X11_back rfl rfl rfl (by decide +kernel) ⟨Nat.le_of_ble_eq_true rfl, Nat.le_of_ble_eq_true rfl⟩) hK hN hP hD [24] rfl rfl (ci := 11) (q0 := 99) rfl rfl rfl rfl hl.1 rfl (Nat.le_of_ble_eq_true rfl) dL_law_2202 ⟨Nat.le_refl _, Nat.le_refl _⟩) hP hD hS hA [24] ⟨rfl, rfl, rfl, rfl⟩ (fun H locs hP hD hS => ?_)
  refine lv_icmp_eq (tgt := 2210) hx hb dL_law_2205 (by decide) (fun _ => ?_) (fun z => absurd e12 z)
  exact kk _ _ H locs hRel hP hD hS
