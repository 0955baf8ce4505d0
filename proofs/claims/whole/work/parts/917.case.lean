theorem dL_law_1780 : decode cL_law 1780 = .ok (.aload_n 1, 1) := by decide +kernel
theorem dL_law_1781 : decode cL_law 1781 = .ok (.aload_n 0, 1) := by decide +kernel
theorem dL_law_1782 : decode cL_law 1782 = .ok (.iload_n 3, 1) := by decide +kernel
theorem dL_law_1783 : decode cL_law 1783 = .ok (.iconst 1, 1) := by decide +kernel
theorem dL_law_1784 : decode cL_law 1784 = .ok (.iadd, 1) := by decide +kernel
theorem dL_law_1785 : decode cL_law 1785 = .ok (.iaload, 1) := by decide +kernel
theorem dL_law_1786 : decode cL_law 1786 = .ok (.invokevirtual 224, 3) := by decide +kernel
theorem dL_law_1789 : decode cL_law 1789 = .ok (.aload_n 2, 1) := by decide +kernel
theorem dL_law_1790 : decode cL_law 1790 = .ok (.aload_n 0, 1) := by decide +kernel
theorem dL_law_1791 : decode cL_law 1791 = .ok (.iload_n 3, 1) := by decide +kernel
theorem dL_law_1792 : decode cL_law 1792 = .ok (.iconst 1, 1) := by decide +kernel
theorem dL_law_1793 : decode cL_law 1793 = .ok (.iadd, 1) := by decide +kernel
theorem dL_law_1794 : decode cL_law 1794 = .ok (.iaload, 1) := by decide +kernel
theorem dL_law_1795 : decode cL_law 1795 = .ok (.invokevirtual 227, 3) := by decide +kernel
theorem dL_law_1798 : decode cL_law 1798 = .ok (.if_icmp .eq 412, 3) := by decide +kernel
set_option maxHeartbeats 8000000 in
set_option maxRecDepth 100000 in
theorem law_quiet {Rel : (Nat → Rc) → Rc → Prop} (hB : BT_quiet Rel) {p : Program} {l : Launch} {e : Env} {s : State} {m : MethodId} {below : List Frame} {meth : Method} {c : Code} {b L : Nat} {xs : Nat → Int32} {D : va_G} {cy : Nat → ClassId} {S : Nat → Nat} {A : Nat → Prop} {Q : State → Prop} {hk hm : Nat} {u v : Nat → Nat → Nat} (C : LC p s m meth c b L xs D cy S A) (hL : L ≤ 3072) {sg : Nat → Rc} {M : Rc} (hR : Rel sg M) {i : Nat} (hi : i + 6 ≤ L) {H : Heap} {locs : List Loc} {ls : Array Slot} (hl : lv_has ls 4 [(0, .ref b), (1, .ref hk), (2, .ref hm), (3, .int (nI i))]) (hP : va_P D vwCl (flat (LW cy hk u hm v sg M)) H) (hD : va_D A (flat (LW cy hk u hm v sg M))) (hS : va_S A s.heap H locs)
    (kk : ∀ (sg : Nat → Rc) (M : Rc) (H : Heap) (locs : List Loc), Rel sg M → va_P D vwCl (flat (LW cy hk u hm v sg M)) H → va_D A (flat (LW cy hk u hm v sg M)) → va_S A s.heap H locs → W p l e room_1 s m #[Value.ref b] below meth c H locs 113 16160 Q (F0 m 2210 ls [])) : W p l e room_1 s m #[Value.ref b] below meth c H locs 113 16160 Q (F0 m 1780 ls []) := by
  obtain ⟨hx, hb, hml, hown, hts, hK, hN, hSX, hX, hbl, hbA, hA⟩ := C
  refine lv_aload_n hx hb dL_law_1780 rfl (lv_at hl 1 rfl) ?_
  refine lv_aload_n hx hb dL_law_1781 rfl (lv_at hl 0 rfl) ?_
  refine lv_iload_n hx hb dL_law_1782 rfl (lv_at hl 3 rfl) ?_
  refine lv_iconst (v := 1) hx hb dL_law_1783 (by decide) ?_
  refine lv_iadd hx hb dL_law_1784 ?_
  refine va_sld hx hb hX hbl hbA hS (ix_in (k := 1) hi (by decide) hL) dL_law_1785 ?_
  obtain ⟨r1, r2, h1, h2, e12, hRel⟩ := hB sg M hR (xs (nI i + (1 : Int32)).toNatClampNeg)
  refine ca_i (w' := LW cy hk u hm v (va_up sg 0 r1.2) M) (rn_V (As := [.int (xs (nI i + (1 : Int32)).toNatClampNeg)]) (rest := []) ⟨hx, hb, hml, hown, hts⟩ (kX10_quiet l D cy hk (u 0) (u 1) (sg 0) (sg 1) (xs (nI i + (1 : Int32)).toNatClampNeg) r1 h1 H.size) (cwV 1 hts gL_law_X10_quiet rfl rfl rfl (by decide +kernel) ⟨Nat.le_of_ble_eq_true rfl, Nat.le_of_ble_eq_true rfl⟩) hK hN hP hD [0, 1] rfl rfl (ci := 10) (q0 := 0) rfl rfl rfl rfl hl.1 rfl (Nat.le_of_ble_eq_true rfl) dL_law_1786 ⟨Nat.le_refl _, Nat.le_refl _⟩) hP hD hS hA [0, 1] ⟨rfl, rfl, rfl, rfl⟩ (fun H locs hP hD hS => ?_)
  refine lv_aload_n hx hb dL_law_1789 rfl (lv_at hl 2 rfl) ?_
  refine lv_aload_n hx hb dL_law_1790 rfl (lv_at hl 0 rfl) ?_
  refine lv_iload_n hx hb dL_law_1791 rfl (lv_at hl 3 rfl) ?_
  refine lv_iconst (v := 1) hx hb dL_law_1792 (by decide) ?_
  refine lv_iadd hx hb dL_law_1793 ?_
  refine va_sld hx hb hX hbl hbA hS (ix_in (k := 1) hi (by decide) hL) dL_law_1794 ?_
  refine ca_i (w' := LW cy hk u hm v (va_up sg 0 r1.2) r2.2) (rn_V (As := [.int (xs (nI i + (1 : Int32)).toNatClampNeg)]) (rest := [.int r1.1]) ⟨hx, hb, hml, hown, hts⟩ (kX11_quiet l D cy hm (v 0) M (xs (nI i + (1 : Int32)).toNatClampNeg) r2 h2 H.size) (cwV 1 hts gL_law_X11_quiet rfl rfl rfl (by decide +kernel) ⟨Nat.le_of_ble_eq_true rfl, Nat.le_of_ble_eq_true rfl⟩) hK hN hP hD [24] rfl rfl (ci := 11) (q0 := 99) rfl rfl rfl rfl hl.1 rfl (Nat.le_of_ble_eq_true rfl) dL_law_1795 ⟨Nat.le_refl _, Nat.le_refl _⟩) hP hD hS hA [24] ⟨rfl, rfl, rfl, rfl⟩ (fun H locs hP hD hS => ?_)
  refine lv_icmp_eq (tgt := 2210) hx hb dL_law_1798 (by decide) (fun _ => ?_) (fun z => absurd e12 z)
  exact kk _ _ H locs hRel hP hD hS
theorem dL_law_1803 : decode cL_law 1803 = .ok (.aload_n 1, 1) := by decide +kernel
theorem dL_law_1804 : decode cL_law 1804 = .ok (.aload_n 0, 1) := by decide +kernel
theorem dL_law_1805 : decode cL_law 1805 = .ok (.iload_n 3, 1) := by decide +kernel
theorem dL_law_1806 : decode cL_law 1806 = .ok (.iconst 1, 1) := by decide +kernel
theorem dL_law_1807 : decode cL_law 1807 = .ok (.iadd, 1) := by decide +kernel
theorem dL_law_1808 : decode cL_law 1808 = .ok (.iaload, 1) := by decide +kernel
theorem dL_law_1809 : decode cL_law 1809 = .ok (.invokevirtual 228, 3) := by decide +kernel
theorem dL_law_1812 : decode cL_law 1812 = .ok (.aload_n 2, 1) := by decide +kernel
theorem dL_law_1813 : decode cL_law 1813 = .ok (.aload_n 0, 1) := by decide +kernel
theorem dL_law_1814 : decode cL_law 1814 = .ok (.iload_n 3, 1) := by decide +kernel
theorem dL_law_1815 : decode cL_law 1815 = .ok (.iconst 1, 1) := by decide +kernel
theorem dL_law_1816 : decode cL_law 1816 = .ok (.iadd, 1) := by decide +kernel
theorem dL_law_1817 : decode cL_law 1817 = .ok (.iaload, 1) := by decide +kernel
theorem dL_law_1818 : decode cL_law 1818 = .ok (.invokevirtual 231, 3) := by decide +kernel
theorem dL_law_1821 : decode cL_law 1821 = .ok (.if_icmp .eq 389, 3) := by decide +kernel
set_option maxHeartbeats 8000000 in
set_option maxRecDepth 100000 in
theorem law_useful {Rel : (Nat → Rc) → Rc → Prop} (hB : BT_useful Rel) {p : Program} {l : Launch} {e : Env} {s : State} {m : MethodId} {below : List Frame} {meth : Method} {c : Code} {b L : Nat} {xs : Nat → Int32} {D : va_G} {cy : Nat → ClassId} {S : Nat → Nat} {A : Nat → Prop} {Q : State → Prop} {hk hm : Nat} {u v : Nat → Nat → Nat} (C : LC p s m meth c b L xs D cy S A) (hL : L ≤ 3072) {sg : Nat → Rc} {M : Rc} (hR : Rel sg M) {i : Nat} (hi : i + 6 ≤ L) {H : Heap} {locs : List Loc} {ls : Array Slot} (hl : lv_has ls 4 [(0, .ref b), (1, .ref hk), (2, .ref hm), (3, .int (nI i))]) (hP : va_P D vwCl (flat (LW cy hk u hm v sg M)) H) (hD : va_D A (flat (LW cy hk u hm v sg M))) (hS : va_S A s.heap H locs)
    (kk : ∀ (sg : Nat → Rc) (M : Rc) (H : Heap) (locs : List Loc), Rel sg M → va_P D vwCl (flat (LW cy hk u hm v sg M)) H → va_D A (flat (LW cy hk u hm v sg M)) → va_S A s.heap H locs → W p l e room_1 s m #[Value.ref b] below meth c H locs 113 16160 Q (F0 m 2210 ls [])) : W p l e room_1 s m #[Value.ref b] below meth c H locs 113 16160 Q (F0 m 1803 ls []) := by
  obtain ⟨hx, hb, hml, hown, hts, hK, hN, hSX, hX, hbl, hbA, hA⟩ := C
  refine lv_aload_n hx hb dL_law_1803 rfl (lv_at hl 1 rfl) ?_
  refine lv_aload_n hx hb dL_law_1804 rfl (lv_at hl 0 rfl) ?_
  refine lv_iload_n hx hb dL_law_1805 rfl (lv_at hl 3 rfl) ?_
  refine lv_iconst (v := 1) hx hb dL_law_1806 (by decide) ?_
  refine lv_iadd hx hb dL_law_1807 ?_
  refine va_sld hx hb hX hbl hbA hS (ix_in (k := 1) hi (by decide) hL) dL_law_1808 ?_
  obtain ⟨r1, r2, h1, h2, e12, hRel⟩ := hB sg M hR (xs (nI i + (1 : Int32)).toNatClampNeg)
  refine ca_i (w' := LW cy hk u hm v (va_up sg 0 r1.2) M) (rn_V (As := [.int (xs (nI i + (1 : Int32)).toNatClampNeg)]) (rest := []) ⟨hx, hb, hml, hown, hts⟩ (kX10_useful l D cy hk (u 0) (u 1) (sg 0) (sg 1) (xs (nI i + (1 : Int32)).toNatClampNeg) r1 h1 H.size) (cwV 1 hts gL_law_X10_useful rfl rfl rfl (by decide +kernel) ⟨Nat.le_of_ble_eq_true rfl, Nat.le_of_ble_eq_true rfl⟩) hK hN hP hD [0, 1] rfl rfl (ci := 10) (q0 := 0) rfl rfl rfl rfl hl.1 rfl (Nat.le_of_ble_eq_true rfl) dL_law_1809 ⟨Nat.le_refl _, Nat.le_refl _⟩) hP hD hS hA [0, 1] ⟨rfl, rfl, rfl, rfl⟩ (fun H locs hP hD hS => ?_)
  refine lv_aload_n hx hb dL_law_1812 rfl (lv_at hl 2 rfl) ?_
  refine lv_aload_n hx hb dL_law_1813 rfl (lv_at hl 0 rfl) ?_
  refine lv_iload_n hx hb dL_law_1814 rfl (lv_at hl 3 rfl) ?_
  refine lv_iconst (v := 1) hx hb dL_law_1815 (by decide) ?_
  refine lv_iadd hx hb dL_law_1816 ?_
  refine va_sld hx hb hX hbl hbA hS (ix_in (k := 1) hi (by decide) hL) dL_law_1817 ?_
  refine ca_i (w' := LW cy hk u hm v (va_up sg 0 r1.2) r2.2) (rn_V (As := [.int (xs (nI i + (1 : Int32)).toNatClampNeg)]) (rest := [.int r1.1]) ⟨hx, hb, hml, hown, hts⟩ (kX11_useful l D cy hm (v 0) M (xs (nI i + (1 : Int32)).toNatClampNeg) r2 h2 H.size) (cwV 1 hts gL_law_X11_useful rfl rfl rfl (by decide +kernel) ⟨Nat.le_of_ble_eq_true rfl, Nat.le_of_ble_eq_true rfl⟩) hK hN hP hD [24] rfl rfl (ci := 11) (q0 := 99) rfl rfl rfl rfl hl.1 rfl (Nat.le_of_ble_eq_true rfl) dL_law_1818 ⟨Nat.le_refl _, Nat.le_refl _⟩) hP hD hS hA [24] ⟨rfl, rfl, rfl, rfl⟩ (fun H locs hP hD hS => ?_)
  refine lv_icmp_eq (tgt := 2210) hx hb dL_law_1821 (by decide) (fun _ => ?_) (fun z => absurd e12 z)
  exact kk _ _ H locs hRel hP hD hS
theorem dL_law_1826 : decode cL_law 1826 = .ok (.aload_n 1, 1) := by decide +kernel
theorem dL_law_1827 : decode cL_law 1827 = .ok (.aload_n 0, 1) := by decide +kernel
theorem dL_law_1828 : decode cL_law 1828 = .ok (.iload_n 3, 1) := by decide +kernel
theorem dL_law_1829 : decode cL_law 1829 = .ok (.iconst 1, 1) := by decide +kernel
theorem dL_law_1830 : decode cL_law 1830 = .ok (.iadd, 1) := by decide +kernel
theorem dL_law_1831 : decode cL_law 1831 = .ok (.iaload, 1) := by decide +kernel
theorem dL_law_1832 : decode cL_law 1832 = .ok (.invokevirtual 232, 3) := by decide +kernel
theorem dL_law_1835 : decode cL_law 1835 = .ok (.aload_n 2, 1) := by decide +kernel
theorem dL_law_1836 : decode cL_law 1836 = .ok (.aload_n 0, 1) := by decide +kernel
theorem dL_law_1837 : decode cL_law 1837 = .ok (.iload_n 3, 1) := by decide +kernel
theorem dL_law_1838 : decode cL_law 1838 = .ok (.iconst 1, 1) := by decide +kernel
theorem dL_law_1839 : decode cL_law 1839 = .ok (.iadd, 1) := by decide +kernel
theorem dL_law_1840 : decode cL_law 1840 = .ok (.iaload, 1) := by decide +kernel
theorem dL_law_1841 : decode cL_law 1841 = .ok (.invokevirtual 235, 3) := by decide +kernel
theorem dL_law_1844 : decode cL_law 1844 = .ok (.if_icmp .eq 366, 3) := by decide +kernel
set_option maxHeartbeats 8000000 in
set_option maxRecDepth 100000 in
theorem law_mood {Rel : (Nat → Rc) → Rc → Prop} (hB : BT_mood Rel) {p : Program} {l : Launch} {e : Env} {s : State} {m : MethodId} {below : List Frame} {meth : Method} {c : Code} {b L : Nat} {xs : Nat → Int32} {D : va_G} {cy : Nat → ClassId} {S : Nat → Nat} {A : Nat → Prop} {Q : State → Prop} {hk hm : Nat} {u v : Nat → Nat → Nat} (C : LC p s m meth c b L xs D cy S A) (hL : L ≤ 3072) {sg : Nat → Rc} {M : Rc} (hR : Rel sg M) {i : Nat} (hi : i + 6 ≤ L) {H : Heap} {locs : List Loc} {ls : Array Slot} (hl : lv_has ls 4 [(0, .ref b), (1, .ref hk), (2, .ref hm), (3, .int (nI i))]) (hP : va_P D vwCl (flat (LW cy hk u hm v sg M)) H) (hD : va_D A (flat (LW cy hk u hm v sg M))) (hS : va_S A s.heap H locs)
    (kk : ∀ (sg : Nat → Rc) (M : Rc) (H : Heap) (locs : List Loc), Rel sg M → va_P D vwCl (flat (LW cy hk u hm v sg M)) H → va_D A (flat (LW cy hk u hm v sg M)) → va_S A s.heap H locs → W p l e room_1 s m #[Value.ref b] below meth c H locs 113 16160 Q (F0 m 2210 ls [])) : W p l e room_1 s m #[Value.ref b] below meth c H locs 113 16160 Q (F0 m 1826 ls []) := by
  obtain ⟨hx, hb, hml, hown, hts, hK, hN, hSX, hX, hbl, hbA, hA⟩ := C
  refine lv_aload_n hx hb dL_law_1826 rfl (lv_at hl 1 rfl) ?_
  refine lv_aload_n hx hb dL_law_1827 rfl (lv_at hl 0 rfl) ?_
  refine lv_iload_n hx hb dL_law_1828 rfl (lv_at hl 3 rfl) ?_
  refine lv_iconst (v := 1) hx hb dL_law_1829 (by decide) ?_
  refine lv_iadd hx hb dL_law_1830 ?_
  refine va_sld hx hb hX hbl hbA hS (ix_in (k := 1) hi (by decide) hL) dL_law_1831 ?_
  obtain ⟨r1, r2, h1, h2, e12, hRel⟩ := hB sg M hR (xs (nI i + (1 : Int32)).toNatClampNeg)
  refine ca_i (w' := LW cy hk u hm v (va_up sg 0 r1.2) M) (rn_V (As := [.int (xs (nI i + (1 : Int32)).toNatClampNeg)]) (rest := []) ⟨hx, hb, hml, hown, hts⟩ (kX10_mood l D cy hk (u 0) (u 1) (sg 0) (sg 1) (xs (nI i + (1 : Int32)).toNatClampNeg) r1 h1 H.size) (cwV 1 hts gL_law_X10_mood rfl rfl rfl (by decide +kernel) ⟨Nat.le_of_ble_eq_true rfl, Nat.le_of_ble_eq_true rfl⟩) hK hN hP hD [0, 1] rfl rfl (ci := 10) (q0 := 0) rfl rfl rfl rfl hl.1 rfl (Nat.le_of_ble_eq_true rfl) dL_law_1832 ⟨Nat.le_refl _, Nat.le_refl _⟩) hP hD hS hA [0, 1] ⟨rfl, rfl, rfl, rfl⟩ (fun H locs hP hD hS => ?_)
  refine lv_aload_n hx hb dL_law_1835 rfl (lv_at hl 2 rfl) ?_
  refine lv_aload_n hx hb dL_law_1836 rfl (lv_at hl 0 rfl) ?_
  refine lv_iload_n hx hb dL_law_1837 rfl (lv_at hl 3 rfl) ?_
  refine lv_iconst (v := 1) hx hb dL_law_1838 (by decide) ?_
  refine lv_iadd hx hb dL_law_1839 ?_
  refine va_sld hx hb hX hbl hbA hS (ix_in (k := 1) hi (by decide) hL) dL_law_1840 ?_
  refine ca_i (w' := LW cy hk u hm v (va_up sg 0 r1.2) r2.2) (rn_V (As := [.int (xs (nI i + (1 : Int32)).toNatClampNeg)]) (rest := [.int r1.1]) ⟨hx, hb, hml, hown, hts⟩ (kX11_mood l D cy hm (v 0) M (xs (nI i + (1 : Int32)).toNatClampNeg) r2 h2 H.size) (cwV 1 hts gL_law_X11_mood rfl rfl rfl (by decide +kernel) ⟨Nat.le_of_ble_eq_true rfl, Nat.le_of_ble_eq_true rfl⟩) hK hN hP hD [24] rfl rfl (ci := 11) (q0 := 99) rfl rfl rfl rfl hl.1 rfl (Nat.le_of_ble_eq_true rfl) dL_law_1841 ⟨Nat.le_refl _, Nat.le_refl _⟩) hP hD hS hA [24] ⟨rfl, rfl, rfl, rfl⟩ (fun H locs hP hD hS => ?_)
  refine lv_icmp_eq (tgt := 2210) hx hb dL_law_1844 (by decide) (fun _ => ?_) (fun z => absurd e12 z)
  exact kk _ _ H locs hRel hP hD hS
theorem dL_law_1849 : decode cL_law 1849 = .ok (.aload_n 1, 1) := by decide +kernel
theorem dL_law_1850 : decode cL_law 1850 = .ok (.aload_n 0, 1) := by decide +kernel
theorem dL_law_1851 : decode cL_law 1851 = .ok (.iload_n 3, 1) := by decide +kernel
theorem dL_law_1852 : decode cL_law 1852 = .ok (.iconst 1, 1) := by decide +kernel
theorem dL_law_1853 : decode cL_law 1853 = .ok (.iadd, 1) := by decide +kernel
theorem dL_law_1854 : decode cL_law 1854 = .ok (.iaload, 1) := by decide +kernel
theorem dL_law_1855 : decode cL_law 1855 = .ok (.invokevirtual 236, 3) := by decide +kernel
theorem dL_law_1858 : decode cL_law 1858 = .ok (.aload_n 2, 1) := by decide +kernel
theorem dL_law_1859 : decode cL_law 1859 = .ok (.aload_n 0, 1) := by decide +kernel
theorem dL_law_1860 : decode cL_law 1860 = .ok (.iload_n 3, 1) := by decide +kernel
theorem dL_law_1861 : decode cL_law 1861 = .ok (.iconst 1, 1) := by decide +kernel
theorem dL_law_1862 : decode cL_law 1862 = .ok (.iadd, 1) := by decide +kernel
theorem dL_law_1863 : decode cL_law 1863 = .ok (.iaload, 1) := by decide +kernel
theorem dL_law_1864 : decode cL_law 1864 = .ok (.invokevirtual 239, 3) := by decide +kernel
theorem dL_law_1867 : decode cL_law 1867 = .ok (.if_icmp .eq 343, 3) := by decide +kernel
set_option maxHeartbeats 8000000 in
set_option maxRecDepth 100000 in
theorem law_foe {Rel : (Nat → Rc) → Rc → Prop} (hB : BT_foe Rel) {p : Program} {l : Launch} {e : Env} {s : State} {m : MethodId} {below : List Frame} {meth : Method} {c : Code} {b L : Nat} {xs : Nat → Int32} {D : va_G} {cy : Nat → ClassId} {S : Nat → Nat} {A : Nat → Prop} {Q : State → Prop} {hk hm : Nat} {u v : Nat → Nat → Nat} (C : LC p s m meth c b L xs D cy S A) (hL : L ≤ 3072) {sg : Nat → Rc} {M : Rc} (hR : Rel sg M) {i : Nat} (hi : i + 6 ≤ L) {H : Heap} {locs : List Loc} {ls : Array Slot} (hl : lv_has ls 4 [(0, .ref b), (1, .ref hk), (2, .ref hm), (3, .int (nI i))]) (hP : va_P D vwCl (flat (LW cy hk u hm v sg M)) H) (hD : va_D A (flat (LW cy hk u hm v sg M))) (hS : va_S A s.heap H locs)
    (kk : ∀ (sg : Nat → Rc) (M : Rc) (H : Heap) (locs : List Loc), Rel sg M → va_P D vwCl (flat (LW cy hk u hm v sg M)) H → va_D A (flat (LW cy hk u hm v sg M)) → va_S A s.heap H locs → W p l e room_1 s m #[Value.ref b] below meth c H locs 113 16160 Q (F0 m 2210 ls [])) : W p l e room_1 s m #[Value.ref b] below meth c H locs 113 16160 Q (F0 m 1849 ls []) := by
  obtain ⟨hx, hb, hml, hown, hts, hK, hN, hSX, hX, hbl, hbA, hA⟩ := C
  refine lv_aload_n hx hb dL_law_1849 rfl (lv_at hl 1 rfl) ?_
  refine lv_aload_n hx hb dL_law_1850 rfl (lv_at hl 0 rfl) ?_
  refine lv_iload_n hx hb dL_law_1851 rfl (lv_at hl 3 rfl) ?_
  refine lv_iconst (v := 1) hx hb dL_law_1852 (by decide) ?_
  refine lv_iadd hx hb dL_law_1853 ?_
  refine va_sld hx hb hX hbl hbA hS (ix_in (k := 1) hi (by decide) hL) dL_law_1854 ?_
  obtain ⟨r1, r2, h1, h2, e12, hRel⟩ := hB sg M hR (xs (nI i + (1 : Int32)).toNatClampNeg)
  refine ca_i (w' := LW cy hk u hm v (va_up sg 0 r1.2) M) (rn_V (As := [.int (xs (nI i + (1 : Int32)).toNatClampNeg)]) (rest := []) ⟨hx, hb, hml, hown, hts⟩ (kX10_foe l D cy hk (u 0) (u 1) (sg 0) (sg 1) (xs (nI i + (1 : Int32)).toNatClampNeg) r1 h1 H.size) (cwV 1 hts gL_law_X10_foe rfl rfl rfl (by decide +kernel) ⟨Nat.le_of_ble_eq_true rfl, Nat.le_of_ble_eq_true rfl⟩) hK hN hP hD [0, 1] rfl rfl (ci := 10) (q0 := 0) rfl rfl rfl rfl hl.1 rfl (Nat.le_of_ble_eq_true rfl) dL_law_1855 ⟨Nat.le_refl _, Nat.le_refl _⟩) hP hD hS hA [0, 1] ⟨rfl, rfl, rfl, rfl⟩ (fun H locs hP hD hS => ?_)
  refine lv_aload_n hx hb dL_law_1858 rfl (lv_at hl 2 rfl) ?_
  refine lv_aload_n hx hb dL_law_1859 rfl (lv_at hl 0 rfl) ?_
  refine lv_iload_n hx hb dL_law_1860 rfl (lv_at hl 3 rfl) ?_
  refine lv_iconst (v := 1) hx hb dL_law_1861 (by decide) ?_
  refine lv_iadd hx hb dL_law_1862 ?_
  refine va_sld hx hb hX hbl hbA hS (ix_in (k := 1) hi (by decide) hL) dL_law_1863 ?_
  refine ca_i (w' := LW cy hk u hm v (va_up sg 0 r1.2) r2.2) (rn_V (As := [.int (xs (nI i + (1 : Int32)).toNatClampNeg)]) (rest := [.int r1.1]) ⟨hx, hb, hml, hown, hts⟩ (kX11_foe l D cy hm (v 0) M (xs (nI i + (1 : Int32)).toNatClampNeg) r2 h2 H.size) (cwV 1 hts gL_law_X11_foe rfl rfl rfl (by decide +kernel) ⟨Nat.le_of_ble_eq_true rfl, Nat.le_of_ble_eq_true rfl⟩) hK hN hP hD [24] rfl rfl (ci := 11) (q0 := 99) rfl rfl rfl rfl hl.1 rfl (Nat.le_of_ble_eq_true rfl) dL_law_1864 ⟨Nat.le_refl _, Nat.le_refl _⟩) hP hD hS hA [24] ⟨rfl, rfl, rfl, rfl⟩ (fun H locs hP hD hS => ?_)
  refine lv_icmp_eq (tgt := 2210) hx hb dL_law_1867 (by decide) (fun _ => ?_) (fun z => absurd e12 z)
  exact kk _ _ H locs hRel hP hD hS
theorem dL_law_1872 : decode cL_law 1872 = .ok (.aload_n 1, 1) := by decide +kernel
theorem dL_law_1873 : decode cL_law 1873 = .ok (.invokevirtual 240, 3) := by decide +kernel
theorem dL_law_1876 : decode cL_law 1876 = .ok (.aload_n 2, 1) := by decide +kernel
theorem dL_law_1877 : decode cL_law 1877 = .ok (.invokevirtual 243, 3) := by decide +kernel
theorem dL_law_1880 : decode cL_law 1880 = .ok (.if_icmp .eq 330, 3) := by decide +kernel
set_option maxHeartbeats 8000000 in
set_option maxRecDepth 100000 in
theorem law_silent {Rel : (Nat → Rc) → Rc → Prop} (hB : BT_silent Rel) {p : Program} {l : Launch} {e : Env} {s : State} {m : MethodId} {below : List Frame} {meth : Method} {c : Code} {b L : Nat} {xs : Nat → Int32} {D : va_G} {cy : Nat → ClassId} {S : Nat → Nat} {A : Nat → Prop} {Q : State → Prop} {hk hm : Nat} {u v : Nat → Nat → Nat} (C : LC p s m meth c b L xs D cy S A) (hL : L ≤ 3072) {sg : Nat → Rc} {M : Rc} (hR : Rel sg M) {i : Nat} (hi : i + 6 ≤ L) {H : Heap} {locs : List Loc} {ls : Array Slot} (hl : lv_has ls 4 [(0, .ref b), (1, .ref hk), (2, .ref hm), (3, .int (nI i))]) (hP : va_P D vwCl (flat (LW cy hk u hm v sg M)) H) (hD : va_D A (flat (LW cy hk u hm v sg M))) (hS : va_S A s.heap H locs)
    (kk : ∀ (sg : Nat → Rc) (M : Rc) (H : Heap) (locs : List Loc), Rel sg M → va_P D vwCl (flat (LW cy hk u hm v sg M)) H → va_D A (flat (LW cy hk u hm v sg M)) → va_S A s.heap H locs → W p l e room_1 s m #[Value.ref b] below meth c H locs 113 16160 Q (F0 m 2210 ls [])) : W p l e room_1 s m #[Value.ref b] below meth c H locs 113 16160 Q (F0 m 1872 ls []) := by
  obtain ⟨hx, hb, hml, hown, hts, hK, hN, hSX, hX, hbl, hbA, hA⟩ := C
  refine lv_aload_n hx hb dL_law_1872 rfl (lv_at hl 1 rfl) ?_
  obtain ⟨r1, r2, h1, h2, e12, hRel⟩ := hB sg M hR
  refine ca_i (w' := LW cy hk u hm v (va_up sg 0 r1.2) M) (rn_V (As := []) (rest := []) ⟨hx, hb, hml, hown, hts⟩ (kX10_silent l D cy hk (u 0) (u 1) (sg 0) (sg 1) r1 h1 H.size) (cwV 0 hts gL_law_X10_silent rfl rfl rfl (by decide +kernel) ⟨Nat.le_of_ble_eq_true rfl, Nat.le_of_ble_eq_true rfl⟩) hK hN hP hD [0, 1] rfl rfl (ci := 10) (q0 := 0) rfl rfl rfl rfl hl.1 rfl (Nat.le_of_ble_eq_true rfl) dL_law_1873 ⟨Nat.le_refl _, Nat.le_refl _⟩) hP hD hS hA [0, 1] ⟨rfl, rfl, rfl, rfl⟩ (fun H locs hP hD hS => ?_)
  refine lv_aload_n hx hb dL_law_1876 rfl (lv_at hl 2 rfl) ?_
  refine ca_i (w' := LW cy hk u hm v (va_up sg 0 r1.2) r2.2) (rn_V (As := []) (rest := [.int r1.1]) ⟨hx, hb, hml, hown, hts⟩ (kX11_silent l D cy hm (v 0) M r2 h2 H.size) (cwV 0 hts gL_law_X11_silent rfl rfl rfl (by decide +kernel) ⟨Nat.le_of_ble_eq_true rfl, Nat.le_of_ble_eq_true rfl⟩) hK hN hP hD [24] rfl rfl (ci := 11) (q0 := 99) rfl rfl rfl rfl hl.1 rfl (Nat.le_of_ble_eq_true rfl) dL_law_1877 ⟨Nat.le_refl _, Nat.le_refl _⟩) hP hD hS hA [24] ⟨rfl, rfl, rfl, rfl⟩ (fun H locs hP hD hS => ?_)
  refine lv_icmp_eq (tgt := 2210) hx hb dL_law_1880 (by decide) (fun _ => ?_) (fun z => absurd e12 z)
  exact kk _ _ H locs hRel hP hD hS
theorem dL_law_1885 : decode cL_law 1885 = .ok (.aload_n 1, 1) := by decide +kernel
theorem dL_law_1886 : decode cL_law 1886 = .ok (.aload_n 0, 1) := by decide +kernel
theorem dL_law_1887 : decode cL_law 1887 = .ok (.iload_n 3, 1) := by decide +kernel
theorem dL_law_1888 : decode cL_law 1888 = .ok (.iconst 1, 1) := by decide +kernel
theorem dL_law_1889 : decode cL_law 1889 = .ok (.iadd, 1) := by decide +kernel
theorem dL_law_1890 : decode cL_law 1890 = .ok (.iaload, 1) := by decide +kernel
theorem dL_law_1891 : decode cL_law 1891 = .ok (.invokevirtual 244, 3) := by decide +kernel
theorem dL_law_1894 : decode cL_law 1894 = .ok (.aload_n 2, 1) := by decide +kernel
theorem dL_law_1895 : decode cL_law 1895 = .ok (.aload_n 0, 1) := by decide +kernel
theorem dL_law_1896 : decode cL_law 1896 = .ok (.iload_n 3, 1) := by decide +kernel
theorem dL_law_1897 : decode cL_law 1897 = .ok (.iconst 1, 1) := by decide +kernel
theorem dL_law_1898 : decode cL_law 1898 = .ok (.iadd, 1) := by decide +kernel
theorem dL_law_1899 : decode cL_law 1899 = .ok (.iaload, 1) := by decide +kernel
theorem dL_law_1900 : decode cL_law 1900 = .ok (.invokevirtual 247, 3) := by decide +kernel
theorem dL_law_1903 : decode cL_law 1903 = .ok (.if_icmp .eq 307, 3) := by decide +kernel
set_option maxHeartbeats 8000000 in
set_option maxRecDepth 100000 in
theorem law_sure {Rel : (Nat → Rc) → Rc → Prop} (hB : BT_sure Rel) {p : Program} {l : Launch} {e : Env} {s : State} {m : MethodId} {below : List Frame} {meth : Method} {c : Code} {b L : Nat} {xs : Nat → Int32} {D : va_G} {cy : Nat → ClassId} {S : Nat → Nat} {A : Nat → Prop} {Q : State → Prop} {hk hm : Nat} {u v : Nat → Nat → Nat} (C : LC p s m meth c b L xs D cy S A) (hL : L ≤ 3072) {sg : Nat → Rc} {M : Rc} (hR : Rel sg M) {i : Nat} (hi : i + 6 ≤ L) {H : Heap} {locs : List Loc} {ls : Array Slot} (hl : lv_has ls 4 [(0, .ref b), (1, .ref hk), (2, .ref hm), (3, .int (nI i))]) (hP : va_P D vwCl (flat (LW cy hk u hm v sg M)) H) (hD : va_D A (flat (LW cy hk u hm v sg M))) (hS : va_S A s.heap H locs)
    (kk : ∀ (sg : Nat → Rc) (M : Rc) (H : Heap) (locs : List Loc), Rel sg M → va_P D vwCl (flat (LW cy hk u hm v sg M)) H → va_D A (flat (LW cy hk u hm v sg M)) → va_S A s.heap H locs → W p l e room_1 s m #[Value.ref b] below meth c H locs 113 16160 Q (F0 m 2210 ls [])) : W p l e room_1 s m #[Value.ref b] below meth c H locs 113 16160 Q (F0 m 1885 ls []) := by
  obtain ⟨hx, hb, hml, hown, hts, hK, hN, hSX, hX, hbl, hbA, hA⟩ := C
  refine lv_aload_n hx hb dL_law_1885 rfl (lv_at hl 1 rfl) ?_
  refine lv_aload_n hx hb dL_law_1886 rfl (lv_at hl 0 rfl) ?_
  refine lv_iload_n hx hb dL_law_1887 rfl (lv_at hl 3 rfl) ?_
  refine lv_iconst (v := 1) hx hb dL_law_1888 (by decide) ?_
  refine lv_iadd hx hb dL_law_1889 ?_
  refine va_sld hx hb hX hbl hbA hS (ix_in (k := 1) hi (by decide) hL) dL_law_1890 ?_
  obtain ⟨r1, r2, h1, h2, e12, hRel⟩ := hB sg M hR (xs (nI i + (1 : Int32)).toNatClampNeg)
  refine ca_i (w' := LW cy hk u hm v (va_up sg 0 r1.2) M) (rn_V (As := [.int (xs (nI i + (1 : Int32)).toNatClampNeg)]) (rest := []) ⟨hx, hb, hml, hown, hts⟩ (kX10_sure l D cy hk (u 0) (u 1) (sg 0) (sg 1) (xs (nI i + (1 : Int32)).toNatClampNeg) r1 h1 H.size) (cwV 1 hts gL_law_X10_sure rfl rfl rfl (by decide +kernel) ⟨Nat.le_of_ble_eq_true rfl, Nat.le_of_ble_eq_true rfl⟩) hK hN hP hD [0, 1] rfl rfl (ci := 10) (q0 := 0) rfl rfl rfl rfl hl.1 rfl (Nat.le_of_ble_eq_true rfl) dL_law_1891 ⟨Nat.le_refl _, Nat.le_refl _⟩) hP hD hS hA [0, 1] ⟨rfl, rfl, rfl, rfl⟩ (fun H locs hP hD hS => ?_)
  refine lv_aload_n hx hb dL_law_1894 rfl (lv_at hl 2 rfl) ?_
  refine lv_aload_n hx hb dL_law_1895 rfl (lv_at hl 0 rfl) ?_
  refine lv_iload_n hx hb dL_law_1896 rfl (lv_at hl 3 rfl) ?_
  refine lv_iconst (v := 1) hx hb dL_law_1897 (by decide) ?_
  refine lv_iadd hx hb dL_law_1898 ?_
  refine va_sld hx hb hX hbl hbA hS (ix_in (k := 1) hi (by decide) hL) dL_law_1899 ?_
  refine ca_i (w' := LW cy hk u hm v (va_up sg 0 r1.2) r2.2) (rn_V (As := [.int (xs (nI i + (1 : Int32)).toNatClampNeg)]) (rest := [.int r1.1]) ⟨hx, hb, hml, hown, hts⟩ (kX11_sure l D cy hm (v 0) M (xs (nI i + (1 : Int32)).toNatClampNeg) r2 h2 H.size) (cwV 1 hts gL_law_X11_sure rfl rfl rfl (by decide +kernel) ⟨Nat.le_of_ble_eq_true rfl, Nat.le_of_ble_eq_true rfl⟩) hK hN hP hD [24] rfl rfl (ci := 11) (q0 := 99) rfl rfl rfl rfl hl.1 rfl (Nat.le_of_ble_eq_true rfl) dL_law_1900 ⟨Nat.le_refl _, Nat.le_refl _⟩) hP hD hS hA [24] ⟨rfl, rfl, rfl, rfl⟩ (fun H locs hP hD hS => ?_)
  refine lv_icmp_eq (tgt := 2210) hx hb dL_law_1903 (by decide) (fun _ => ?_) (fun z => absurd e12 z)
  exact kk _ _ H locs hRel hP hD hS
theorem dL_law_1908 : decode cL_law 1908 = .ok (.aload_n 1, 1) := by decide +kernel
theorem dL_law_1909 : decode cL_law 1909 = .ok (.invokevirtual 248, 3) := by decide +kernel
theorem dL_law_1912 : decode cL_law 1912 = .ok (.aload_n 2, 1) := by decide +kernel
theorem dL_law_1913 : decode cL_law 1913 = .ok (.invokevirtual 251, 3) := by decide +kernel
theorem dL_law_1916 : decode cL_law 1916 = .ok (.if_icmp .eq 294, 3) := by decide +kernel
set_option maxHeartbeats 8000000 in
set_option maxRecDepth 100000 in
theorem law_bestLaw {Rel : (Nat → Rc) → Rc → Prop} (hB : BT_bestLaw Rel) {p : Program} {l : Launch} {e : Env} {s : State} {m : MethodId} {below : List Frame} {meth : Method} {c : Code} {b L : Nat} {xs : Nat → Int32} {D : va_G} {cy : Nat → ClassId} {S : Nat → Nat} {A : Nat → Prop} {Q : State → Prop} {hk hm : Nat} {u v : Nat → Nat → Nat} (C : LC p s m meth c b L xs D cy S A) (hL : L ≤ 3072) {sg : Nat → Rc} {M : Rc} (hR : Rel sg M) {i : Nat} (hi : i + 6 ≤ L) {H : Heap} {locs : List Loc} {ls : Array Slot} (hl : lv_has ls 4 [(0, .ref b), (1, .ref hk), (2, .ref hm), (3, .int (nI i))]) (hP : va_P D vwCl (flat (LW cy hk u hm v sg M)) H) (hD : va_D A (flat (LW cy hk u hm v sg M))) (hS : va_S A s.heap H locs)
    (kk : ∀ (sg : Nat → Rc) (M : Rc) (H : Heap) (locs : List Loc), Rel sg M → va_P D vwCl (flat (LW cy hk u hm v sg M)) H → va_D A (flat (LW cy hk u hm v sg M)) → va_S A s.heap H locs → W p l e room_1 s m #[Value.ref b] below meth c H locs 113 16160 Q (F0 m 2210 ls [])) : W p l e room_1 s m #[Value.ref b] below meth c H locs 113 16160 Q (F0 m 1908 ls []) := by
  obtain ⟨hx, hb, hml, hown, hts, hK, hN, hSX, hX, hbl, hbA, hA⟩ := C
  refine lv_aload_n hx hb dL_law_1908 rfl (lv_at hl 1 rfl) ?_
  obtain ⟨r1, r2, h1, h2, e12, hRel⟩ := hB sg M hR
  refine ca_i (w' := LW cy hk u hm v (va_up sg 0 r1.2) M) (rn_V (As := []) (rest := []) ⟨hx, hb, hml, hown, hts⟩ (kX10_bestLaw l D cy hk (u 0) (u 1) (sg 0) (sg 1) r1 h1 H.size) (cwV 0 hts gL_law_X10_bestLaw rfl rfl rfl (by decide +kernel) ⟨Nat.le_of_ble_eq_true rfl, Nat.le_of_ble_eq_true rfl⟩) hK hN hP hD [0, 1] rfl rfl (ci := 10) (q0 := 0) rfl rfl rfl rfl hl.1 rfl (Nat.le_of_ble_eq_true rfl) dL_law_1909 ⟨Nat.le_refl _, Nat.le_refl _⟩) hP hD hS hA [0, 1] ⟨rfl, rfl, rfl, rfl⟩ (fun H locs hP hD hS => ?_)
  refine lv_aload_n hx hb dL_law_1912 rfl (lv_at hl 2 rfl) ?_
  refine ca_i (w' := LW cy hk u hm v (va_up sg 0 r1.2) r2.2) (rn_V (As := []) (rest := [.int r1.1]) ⟨hx, hb, hml, hown, hts⟩ (kX11_bestLaw l D cy hm (v 0) M r2 h2 H.size) (cwV 0 hts gL_law_X11_bestLaw rfl rfl rfl (by decide +kernel) ⟨Nat.le_of_ble_eq_true rfl, Nat.le_of_ble_eq_true rfl⟩) hK hN hP hD [24] rfl rfl (ci := 11) (q0 := 99) rfl rfl rfl rfl hl.1 rfl (Nat.le_of_ble_eq_true rfl) dL_law_1913 ⟨Nat.le_refl _, Nat.le_refl _⟩) hP hD hS hA [24] ⟨rfl, rfl, rfl, rfl⟩ (fun H locs hP hD hS => ?_)
  refine lv_icmp_eq (tgt := 2210) hx hb dL_law_1916 (by decide) (fun _ => ?_) (fun z => absurd e12 z)
  exact kk _ _ H locs hRel hP hD hS
theorem dL_law_1921 : decode cL_law 1921 = .ok (.aload_n 1, 1) := by decide +kernel
theorem dL_law_1922 : decode cL_law 1922 = .ok (.aload_n 0, 1) := by decide +kernel
theorem dL_law_1923 : decode cL_law 1923 = .ok (.iload_n 3, 1) := by decide +kernel
theorem dL_law_1924 : decode cL_law 1924 = .ok (.iconst 1, 1) := by decide +kernel
theorem dL_law_1925 : decode cL_law 1925 = .ok (.iadd, 1) := by decide +kernel
theorem dL_law_1926 : decode cL_law 1926 = .ok (.iaload, 1) := by decide +kernel
theorem dL_law_1927 : decode cL_law 1927 = .ok (.invokevirtual 252, 3) := by decide +kernel
theorem dL_law_1930 : decode cL_law 1930 = .ok (.aload_n 2, 1) := by decide +kernel
theorem dL_law_1931 : decode cL_law 1931 = .ok (.aload_n 0, 1) := by decide +kernel
theorem dL_law_1932 : decode cL_law 1932 = .ok (.iload_n 3, 1) := by decide +kernel
theorem dL_law_1933 : decode cL_law 1933 = .ok (.iconst 1, 1) := by decide +kernel
theorem dL_law_1934 : decode cL_law 1934 = .ok (.iadd, 1) := by decide +kernel
theorem dL_law_1935 : decode cL_law 1935 = .ok (.iaload, 1) := by decide +kernel
theorem dL_law_1936 : decode cL_law 1936 = .ok (.invokevirtual 255, 3) := by decide +kernel
theorem dL_law_1939 : decode cL_law 1939 = .ok (.if_icmp .eq 271, 3) := by decide +kernel
set_option maxHeartbeats 8000000 in
set_option maxRecDepth 100000 in
theorem law_keptBy {Rel : (Nat → Rc) → Rc → Prop} (hB : BT_keptBy Rel) {p : Program} {l : Launch} {e : Env} {s : State} {m : MethodId} {below : List Frame} {meth : Method} {c : Code} {b L : Nat} {xs : Nat → Int32} {D : va_G} {cy : Nat → ClassId} {S : Nat → Nat} {A : Nat → Prop} {Q : State → Prop} {hk hm : Nat} {u v : Nat → Nat → Nat} (C : LC p s m meth c b L xs D cy S A) (hL : L ≤ 3072) {sg : Nat → Rc} {M : Rc} (hR : Rel sg M) {i : Nat} (hi : i + 6 ≤ L) {H : Heap} {locs : List Loc} {ls : Array Slot} (hl : lv_has ls 4 [(0, .ref b), (1, .ref hk), (2, .ref hm), (3, .int (nI i))]) (hP : va_P D vwCl (flat (LW cy hk u hm v sg M)) H) (hD : va_D A (flat (LW cy hk u hm v sg M))) (hS : va_S A s.heap H locs)
    (kk : ∀ (sg : Nat → Rc) (M : Rc) (H : Heap) (locs : List Loc), Rel sg M → va_P D vwCl (flat (LW cy hk u hm v sg M)) H → va_D A (flat (LW cy hk u hm v sg M)) → va_S A s.heap H locs → W p l e room_1 s m #[Value.ref b] below meth c H locs 113 16160 Q (F0 m 2210 ls [])) : W p l e room_1 s m #[Value.ref b] below meth c H locs 113 16160 Q (F0 m 1921 ls []) := by
  obtain ⟨hx, hb, hml, hown, hts, hK, hN, hSX, hX, hbl, hbA, hA⟩ := C
  refine lv_aload_n hx hb dL_law_1921 rfl (lv_at hl 1 rfl) ?_
  refine lv_aload_n hx hb dL_law_1922 rfl (lv_at hl 0 rfl) ?_
  refine lv_iload_n hx hb dL_law_1923 rfl (lv_at hl 3 rfl) ?_
  refine lv_iconst (v := 1) hx hb dL_law_1924 (by decide) ?_
  refine lv_iadd hx hb dL_law_1925 ?_
  refine va_sld hx hb hX hbl hbA hS (ix_in (k := 1) hi (by decide) hL) dL_law_1926 ?_
  obtain ⟨r1, r2, h1, h2, e12, hRel⟩ := hB sg M hR (xs (nI i + (1 : Int32)).toNatClampNeg)
  refine ca_i (w' := LW cy hk u hm v (va_up sg 0 r1.2) M) (rn_V (As := [.int (xs (nI i + (1 : Int32)).toNatClampNeg)]) (rest := []) ⟨hx, hb, hml, hown, hts⟩ (kX10_keptBy l D cy hk (u 0) (u 1) (sg 0) (sg 1) (xs (nI i + (1 : Int32)).toNatClampNeg) r1 h1 H.size) (cwV 1 hts gL_law_X10_keptBy rfl rfl rfl (by decide +kernel) ⟨Nat.le_of_ble_eq_true rfl, Nat.le_of_ble_eq_true rfl⟩) hK hN hP hD [0, 1] rfl rfl (ci := 10) (q0 := 0) rfl rfl rfl rfl hl.1 rfl (Nat.le_of_ble_eq_true rfl) dL_law_1927 ⟨Nat.le_refl _, Nat.le_refl _⟩) hP hD hS hA [0, 1] ⟨rfl, rfl, rfl, rfl⟩ (fun H locs hP hD hS => ?_)
  refine lv_aload_n hx hb dL_law_1930 rfl (lv_at hl 2 rfl) ?_
  refine lv_aload_n hx hb dL_law_1931 rfl (lv_at hl 0 rfl) ?_
  refine lv_iload_n hx hb dL_law_1932 rfl (lv_at hl 3 rfl) ?_
  refine lv_iconst (v := 1) hx hb dL_law_1933 (by decide) ?_
  refine lv_iadd hx hb dL_law_1934 ?_
  refine va_sld hx hb hX hbl hbA hS (ix_in (k := 1) hi (by decide) hL) dL_law_1935 ?_
  refine ca_i (w' := LW cy hk u hm v (va_up sg 0 r1.2) r2.2) (rn_V (As := [.int (xs (nI i + (1 : Int32)).toNatClampNeg)]) (rest := [.int r1.1]) ⟨hx, hb, hml, hown, hts⟩ (kX11_keptBy l D cy hm (v 0) M (xs (nI i + (1 : Int32)).toNatClampNeg) r2 h2 H.size) (cwV 1 hts gL_law_X11_keptBy rfl rfl rfl (by decide +kernel) ⟨Nat.le_of_ble_eq_true rfl, Nat.le_of_ble_eq_true rfl⟩) hK hN hP hD [24] rfl rfl (ci := 11) (q0 := 99) rfl rfl rfl rfl hl.1 rfl (Nat.le_of_ble_eq_true rfl) dL_law_1936 ⟨Nat.le_refl _, Nat.le_refl _⟩) hP hD hS hA [24] ⟨rfl, rfl, rfl, rfl⟩ (fun H locs hP hD hS => ?_)
  refine lv_icmp_eq (tgt := 2210) hx hb dL_law_1939 (by decide) (fun _ => ?_) (fun z => absurd e12 z)
  exact kk _ _ H locs hRel hP hD hS
theorem dL_law_1944 : decode cL_law 1944 = .ok (.aload_n 1, 1) := by decide +kernel
theorem dL_law_1945 : decode cL_law 1945 = .ok (.aload_n 0, 1) := by decide +kernel
theorem dL_law_1946 : decode cL_law 1946 = .ok (.iload_n 3, 1) := by decide +kernel
theorem dL_law_1947 : decode cL_law 1947 = .ok (.iconst 1, 1) := by decide +kernel
theorem dL_law_1948 : decode cL_law 1948 = .ok (.iadd, 1) := by decide +kernel
theorem dL_law_1949 : decode cL_law 1949 = .ok (.iaload, 1) := by decide +kernel
theorem dL_law_1950 : decode cL_law 1950 = .ok (.invokevirtual 256, 3) := by decide +kernel
theorem dL_law_1953 : decode cL_law 1953 = .ok (.aload_n 2, 1) := by decide +kernel
theorem dL_law_1954 : decode cL_law 1954 = .ok (.aload_n 0, 1) := by decide +kernel
theorem dL_law_1955 : decode cL_law 1955 = .ok (.iload_n 3, 1) := by decide +kernel
theorem dL_law_1956 : decode cL_law 1956 = .ok (.iconst 1, 1) := by decide +kernel
theorem dL_law_1957 : decode cL_law 1957 = .ok (.iadd, 1) := by decide +kernel
theorem dL_law_1958 : decode cL_law 1958 = .ok (.iaload, 1) := by decide +kernel
theorem dL_law_1959 : decode cL_law 1959 = .ok (.invokevirtual 259, 3) := by decide +kernel
theorem dL_law_1962 : decode cL_law 1962 = .ok (.if_icmp .eq 248, 3) := by decide +kernel
set_option maxHeartbeats 8000000 in
set_option maxRecDepth 100000 in
theorem law_streak {Rel : (Nat → Rc) → Rc → Prop} (hB : BT_streak Rel) {p : Program} {l : Launch} {e : Env} {s : State} {m : MethodId} {below : List Frame} {meth : Method} {c : Code} {b L : Nat} {xs : Nat → Int32} {D : va_G} {cy : Nat → ClassId} {S : Nat → Nat} {A : Nat → Prop} {Q : State → Prop} {hk hm : Nat} {u v : Nat → Nat → Nat} (C : LC p s m meth c b L xs D cy S A) (hL : L ≤ 3072) {sg : Nat → Rc} {M : Rc} (hR : Rel sg M) {i : Nat} (hi : i + 6 ≤ L) {H : Heap} {locs : List Loc} {ls : Array Slot} (hl : lv_has ls 4 [(0, .ref b), (1, .ref hk), (2, .ref hm), (3, .int (nI i))]) (hP : va_P D vwCl (flat (LW cy hk u hm v sg M)) H) (hD : va_D A (flat (LW cy hk u hm v sg M))) (hS : va_S A s.heap H locs)
    (kk : ∀ (sg : Nat → Rc) (M : Rc) (H : Heap) (locs : List Loc), Rel sg M → va_P D vwCl (flat (LW cy hk u hm v sg M)) H → va_D A (flat (LW cy hk u hm v sg M)) → va_S A s.heap H locs → W p l e room_1 s m #[Value.ref b] below meth c H locs 113 16160 Q (F0 m 2210 ls [])) : W p l e room_1 s m #[Value.ref b] below meth c H locs 113 16160 Q (F0 m 1944 ls []) := by
  obtain ⟨hx, hb, hml, hown, hts, hK, hN, hSX, hX, hbl, hbA, hA⟩ := C
  refine lv_aload_n hx hb dL_law_1944 rfl (lv_at hl 1 rfl) ?_
  refine lv_aload_n hx hb dL_law_1945 rfl (lv_at hl 0 rfl) ?_
  refine lv_iload_n hx hb dL_law_1946 rfl (lv_at hl 3 rfl) ?_
  refine lv_iconst (v := 1) hx hb dL_law_1947 (by decide) ?_
  refine lv_iadd hx hb dL_law_1948 ?_
  refine va_sld hx hb hX hbl hbA hS (ix_in (k := 1) hi (by decide) hL) dL_law_1949 ?_
  obtain ⟨r1, r2, h1, h2, e12, hRel⟩ := hB sg M hR (xs (nI i + (1 : Int32)).toNatClampNeg)
  refine ca_i (w' := LW cy hk u hm v (va_up sg 0 r1.2) M) (rn_V (As := [.int (xs (nI i + (1 : Int32)).toNatClampNeg)]) (rest := []) ⟨hx, hb, hml, hown, hts⟩ (kX10_streak l D cy hk (u 0) (u 1) (sg 0) (sg 1) (xs (nI i + (1 : Int32)).toNatClampNeg) r1 h1 H.size) (cwV 1 hts gL_law_X10_streak rfl rfl rfl (by decide +kernel) ⟨Nat.le_of_ble_eq_true rfl, Nat.le_of_ble_eq_true rfl⟩) hK hN hP hD [0, 1] rfl rfl (ci := 10) (q0 := 0) rfl rfl rfl rfl hl.1 rfl (Nat.le_of_ble_eq_true rfl) dL_law_1950 ⟨Nat.le_refl _, Nat.le_refl _⟩) hP hD hS hA [0, 1] ⟨rfl, rfl, rfl, rfl⟩ (fun H locs hP hD hS => ?_)
  refine lv_aload_n hx hb dL_law_1953 rfl (lv_at hl 2 rfl) ?_
  refine lv_aload_n hx hb dL_law_1954 rfl (lv_at hl 0 rfl) ?_
  refine lv_iload_n hx hb dL_law_1955 rfl (lv_at hl 3 rfl) ?_
  refine lv_iconst (v := 1) hx hb dL_law_1956 (by decide) ?_
  refine lv_iadd hx hb dL_law_1957 ?_
  refine va_sld hx hb hX hbl hbA hS (ix_in (k := 1) hi (by decide) hL) dL_law_1958 ?_
  refine ca_i (w' := LW cy hk u hm v (va_up sg 0 r1.2) r2.2) (rn_V (As := [.int (xs (nI i + (1 : Int32)).toNatClampNeg)]) (rest := [.int r1.1]) ⟨hx, hb, hml, hown, hts⟩ (kX11_streak l D cy hm (v 0) M (xs (nI i + (1 : Int32)).toNatClampNeg) r2 h2 H.size) (cwV 1 hts gL_law_X11_streak rfl rfl rfl (by decide +kernel) ⟨Nat.le_of_ble_eq_true rfl, Nat.le_of_ble_eq_true rfl⟩) hK hN hP hD [24] rfl rfl (ci := 11) (q0 := 99) rfl rfl rfl rfl hl.1 rfl (Nat.le_of_ble_eq_true rfl) dL_law_1959 ⟨Nat.le_refl _, Nat.le_refl _⟩) hP hD hS hA [24] ⟨rfl, rfl, rfl, rfl⟩ (fun H locs hP hD hS => ?_)
  refine lv_icmp_eq (tgt := 2210) hx hb dL_law_1962 (by decide) (fun _ => ?_) (fun z => absurd e12 z)
  exact kk _ _ H locs hRel hP hD hS
theorem dL_law_1967 : decode cL_law 1967 = .ok (.aload_n 1, 1) := by decide +kernel
theorem dL_law_1968 : decode cL_law 1968 = .ok (.aload_n 0, 1) := by decide +kernel
theorem dL_law_1969 : decode cL_law 1969 = .ok (.iload_n 3, 1) := by decide +kernel
theorem dL_law_1970 : decode cL_law 1970 = .ok (.iconst 1, 1) := by decide +kernel
theorem dL_law_1971 : decode cL_law 1971 = .ok (.iadd, 1) := by decide +kernel
theorem dL_law_1972 : decode cL_law 1972 = .ok (.iaload, 1) := by decide +kernel
theorem dL_law_1973 : decode cL_law 1973 = .ok (.aload_n 0, 1) := by decide +kernel
theorem dL_law_1974 : decode cL_law 1974 = .ok (.iload_n 3, 1) := by decide +kernel
theorem dL_law_1975 : decode cL_law 1975 = .ok (.iconst 2, 1) := by decide +kernel
theorem dL_law_1976 : decode cL_law 1976 = .ok (.iadd, 1) := by decide +kernel
theorem dL_law_1977 : decode cL_law 1977 = .ok (.iaload, 1) := by decide +kernel
theorem dL_law_1978 : decode cL_law 1978 = .ok (.invokevirtual 260, 3) := by decide +kernel
theorem dL_law_1981 : decode cL_law 1981 = .ok (.aload_n 2, 1) := by decide +kernel
theorem dL_law_1982 : decode cL_law 1982 = .ok (.aload_n 0, 1) := by decide +kernel
theorem dL_law_1983 : decode cL_law 1983 = .ok (.iload_n 3, 1) := by decide +kernel
theorem dL_law_1984 : decode cL_law 1984 = .ok (.iconst 1, 1) := by decide +kernel
theorem dL_law_1985 : decode cL_law 1985 = .ok (.iadd, 1) := by decide +kernel
theorem dL_law_1986 : decode cL_law 1986 = .ok (.iaload, 1) := by decide +kernel
theorem dL_law_1987 : decode cL_law 1987 = .ok (.aload_n 0, 1) := by decide +kernel
theorem dL_law_1988 : decode cL_law 1988 = .ok (.iload_n 3, 1) := by decide +kernel
theorem dL_law_1989 : decode cL_law 1989 = .ok (.iconst 2, 1) := by decide +kernel
theorem dL_law_1990 : decode cL_law 1990 = .ok (.iadd, 1) := by decide +kernel
theorem dL_law_1991 : decode cL_law 1991 = .ok (.iaload, 1) := by decide +kernel
theorem dL_law_1992 : decode cL_law 1992 = .ok (.invokevirtual 263, 3) := by decide +kernel
theorem dL_law_1995 : decode cL_law 1995 = .ok (.if_icmp .eq 215, 3) := by decide +kernel
set_option maxHeartbeats 8000000 in
set_option maxRecDepth 100000 in
theorem law_clashes {Rel : (Nat → Rc) → Rc → Prop} (hB : BT_clashes Rel) {p : Program} {l : Launch} {e : Env} {s : State} {m : MethodId} {below : List Frame} {meth : Method} {c : Code} {b L : Nat} {xs : Nat → Int32} {D : va_G} {cy : Nat → ClassId} {S : Nat → Nat} {A : Nat → Prop} {Q : State → Prop} {hk hm : Nat} {u v : Nat → Nat → Nat} (C : LC p s m meth c b L xs D cy S A) (hL : L ≤ 3072) {sg : Nat → Rc} {M : Rc} (hR : Rel sg M) {i : Nat} (hi : i + 6 ≤ L) {H : Heap} {locs : List Loc} {ls : Array Slot} (hl : lv_has ls 4 [(0, .ref b), (1, .ref hk), (2, .ref hm), (3, .int (nI i))]) (hP : va_P D vwCl (flat (LW cy hk u hm v sg M)) H) (hD : va_D A (flat (LW cy hk u hm v sg M))) (hS : va_S A s.heap H locs)
    (kk : ∀ (sg : Nat → Rc) (M : Rc) (H : Heap) (locs : List Loc), Rel sg M → va_P D vwCl (flat (LW cy hk u hm v sg M)) H → va_D A (flat (LW cy hk u hm v sg M)) → va_S A s.heap H locs → W p l e room_1 s m #[Value.ref b] below meth c H locs 113 16160 Q (F0 m 2210 ls [])) : W p l e room_1 s m #[Value.ref b] below meth c H locs 113 16160 Q (F0 m 1967 ls []) := by
  obtain ⟨hx, hb, hml, hown, hts, hK, hN, hSX, hX, hbl, hbA, hA⟩ := C
  refine lv_aload_n hx hb dL_law_1967 rfl (lv_at hl 1 rfl) ?_
  refine lv_aload_n hx hb dL_law_1968 rfl (lv_at hl 0 rfl) ?_
  refine lv_iload_n hx hb dL_law_1969 rfl (lv_at hl 3 rfl) ?_
  refine lv_iconst (v := 1) hx hb dL_law_1970 (by decide) ?_
  refine lv_iadd hx hb dL_law_1971 ?_
  refine va_sld hx hb hX hbl hbA hS (ix_in (k := 1) hi (by decide) hL) dL_law_1972 ?_
  refine lv_aload_n hx hb dL_law_1973 rfl (lv_at hl 0 rfl) ?_
  refine lv_iload_n hx hb dL_law_1974 rfl (lv_at hl 3 rfl) ?_
  refine lv_iconst (v := 2) hx hb dL_law_1975 (by decide) ?_
  refine lv_iadd hx hb dL_law_1976 ?_
  refine va_sld hx hb hX hbl hbA hS (ix_in (k := 2) hi (by decide) hL) dL_law_1977 ?_
  obtain ⟨r1, r2, h1, h2, e12, hRel⟩ := hB sg M hR (xs (nI i + (1 : Int32)).toNatClampNeg) (xs (nI i + (2 : Int32)).toNatClampNeg)
  refine ca_i (w' := LW cy hk u hm v (va_up sg 0 r1.2) M) (rn_V (As := [.int (xs (nI i + (1 : Int32)).toNatClampNeg), .int (xs (nI i + (2 : Int32)).toNatClampNeg)]) (rest := []) ⟨hx, hb, hml, hown, hts⟩ (kX10_clashes l D cy hk (u 0) (u 1) (sg 0) (sg 1) (xs (nI i + (1 : Int32)).toNatClampNeg) (xs (nI i + (2 : Int32)).toNatClampNeg) r1 h1 H.size) (cwV 2 hts gL_law_X10_clashes rfl rfl rfl (by decide +kernel) ⟨Nat.le_of_ble_eq_true rfl, Nat.le_of_ble_eq_true rfl⟩) hK hN hP hD [0, 1] rfl rfl (ci := 10) (q0 := 0) rfl rfl rfl rfl hl.1 rfl (Nat.le_of_ble_eq_true rfl) dL_law_1978 ⟨Nat.le_refl _, Nat.le_refl _⟩) hP hD hS hA [0, 1] ⟨rfl, rfl, rfl, rfl⟩ (fun H locs hP hD hS => ?_)
  refine lv_aload_n hx hb dL_law_1981 rfl (lv_at hl 2 rfl) ?_
  refine lv_aload_n hx hb dL_law_1982 rfl (lv_at hl 0 rfl) ?_
  refine lv_iload_n hx hb dL_law_1983 rfl (lv_at hl 3 rfl) ?_
  refine lv_iconst (v := 1) hx hb dL_law_1984 (by decide) ?_
  refine lv_iadd hx hb dL_law_1985 ?_
  refine va_sld hx hb hX hbl hbA hS (ix_in (k := 1) hi (by decide) hL) dL_law_1986 ?_
  refine lv_aload_n hx hb dL_law_1987 rfl (lv_at hl 0 rfl) ?_
  refine lv_iload_n hx hb dL_law_1988 rfl (lv_at hl 3 rfl) ?_
  refine lv_iconst (v := 2) hx hb dL_law_1989 (by decide) ?_
  refine lv_iadd hx hb dL_law_1990 ?_
  refine va_sld hx hb hX hbl hbA hS (ix_in (k := 2) hi (by decide) hL) dL_law_1991 ?_
  refine ca_i (w' := LW cy hk u hm v (va_up sg 0 r1.2) r2.2) (rn_V (As := [.int (xs (nI i + (1 : Int32)).toNatClampNeg), .int (xs (nI i + (2 : Int32)).toNatClampNeg)]) (rest := [.int r1.1]) ⟨hx, hb, hml, hown, hts⟩ (kX11_clashes l D cy hm (v 0) M (xs (nI i + (1 : Int32)).toNatClampNeg) (xs (nI i + (2 : Int32)).toNatClampNeg) r2 h2 H.size) (cwV 2 hts gL_law_X11_clashes rfl rfl rfl (by decide +kernel) ⟨Nat.le_of_ble_eq_true rfl, Nat.le_of_ble_eq_true rfl⟩) hK hN hP hD [24] rfl rfl (ci := 11) (q0 := 99) rfl rfl rfl rfl hl.1 rfl (Nat.le_of_ble_eq_true rfl) dL_law_1992 ⟨Nat.le_refl _, Nat.le_refl _⟩) hP hD hS hA [24] ⟨rfl, rfl, rfl, rfl⟩ (fun H locs hP hD hS => ?_)
  refine lv_icmp_eq (tgt := 2210) hx hb dL_law_1995 (by decide) (fun _ => ?_) (fun z => absurd e12 z)
  exact kk _ _ H locs hRel hP hD hS
