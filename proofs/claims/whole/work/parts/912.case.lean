theorem dL_law_733 : decode cL_law 733 = .ok (.aload_n 1, 1) := by decide +kernel
theorem dL_law_734 : decode cL_law 734 = .ok (.aload_n 0, 1) := by decide +kernel
theorem dL_law_735 : decode cL_law 735 = .ok (.iload_n 3, 1) := by decide +kernel
theorem dL_law_736 : decode cL_law 736 = .ok (.iconst 1, 1) := by decide +kernel
theorem dL_law_737 : decode cL_law 737 = .ok (.iadd, 1) := by decide +kernel
theorem dL_law_738 : decode cL_law 738 = .ok (.iaload, 1) := by decide +kernel
theorem dL_law_739 : decode cL_law 739 = .ok (.aload_n 0, 1) := by decide +kernel
theorem dL_law_740 : decode cL_law 740 = .ok (.iload_n 3, 1) := by decide +kernel
theorem dL_law_741 : decode cL_law 741 = .ok (.iconst 2, 1) := by decide +kernel
theorem dL_law_742 : decode cL_law 742 = .ok (.iadd, 1) := by decide +kernel
theorem dL_law_743 : decode cL_law 743 = .ok (.iaload, 1) := by decide +kernel
theorem dL_law_744 : decode cL_law 744 = .ok (.invokevirtual 71, 3) := by decide +kernel
theorem dL_law_747 : decode cL_law 747 = .ok (.aload_n 2, 1) := by decide +kernel
theorem dL_law_748 : decode cL_law 748 = .ok (.aload_n 0, 1) := by decide +kernel
theorem dL_law_749 : decode cL_law 749 = .ok (.iload_n 3, 1) := by decide +kernel
theorem dL_law_750 : decode cL_law 750 = .ok (.iconst 1, 1) := by decide +kernel
theorem dL_law_751 : decode cL_law 751 = .ok (.iadd, 1) := by decide +kernel
theorem dL_law_752 : decode cL_law 752 = .ok (.iaload, 1) := by decide +kernel
theorem dL_law_753 : decode cL_law 753 = .ok (.aload_n 0, 1) := by decide +kernel
theorem dL_law_754 : decode cL_law 754 = .ok (.iload_n 3, 1) := by decide +kernel
theorem dL_law_755 : decode cL_law 755 = .ok (.iconst 2, 1) := by decide +kernel
theorem dL_law_756 : decode cL_law 756 = .ok (.iadd, 1) := by decide +kernel
theorem dL_law_757 : decode cL_law 757 = .ok (.iaload, 1) := by decide +kernel
theorem dL_law_758 : decode cL_law 758 = .ok (.invokevirtual 75, 3) := by decide +kernel
theorem dL_law_761 : decode cL_law 761 = .ok (.if_icmp .eq 1449, 3) := by decide +kernel
set_option maxHeartbeats 8000000 in
set_option maxRecDepth 100000 in
theorem law_farmer {Rel : (Nat → Rc) → Rc → Prop} (hB : BT_farmer Rel) {p : Program} {l : Launch} {e : Env} {s : State} {m : MethodId} {below : List Frame} {meth : Method} {c : Code} {b L : Nat} {xs : Nat → Int32} {D : va_G} {cy : Nat → ClassId} {S : Nat → Nat} {A : Nat → Prop} {Q : State → Prop} {hk hm : Nat} {u v : Nat → Nat → Nat} (C : LC p s m meth c b L xs D cy S A) (hL : L ≤ 3072) {sg : Nat → Rc} {M : Rc} (hR : Rel sg M) {i : Nat} (hi : i + 6 ≤ L) {H : Heap} {locs : List Loc} {ls : Array Slot} (hl : lv_has ls 4 [(0, .ref b), (1, .ref hk), (2, .ref hm), (3, .int (nI i))]) (hP : va_P D vwCl (flat (LW cy hk u hm v sg M)) H) (hD : va_D A (flat (LW cy hk u hm v sg M))) (hS : va_S A s.heap H locs)
    (kk : ∀ (sg : Nat → Rc) (M : Rc) (H : Heap) (locs : List Loc), Rel sg M → va_P D vwCl (flat (LW cy hk u hm v sg M)) H → va_D A (flat (LW cy hk u hm v sg M)) → va_S A s.heap H locs → W p l e room_1 s m #[Value.ref b] below meth c H locs 113 16160 Q (F0 m 2210 ls [])) : W p l e room_1 s m #[Value.ref b] below meth c H locs 113 16160 Q (F0 m 733 ls []) := by
  obtain ⟨hx, hb, hml, hown, hts, hK, hN, hSX, hX, hbl, hbA, hA⟩ := C
  refine lv_aload_n hx hb dL_law_733 rfl (lv_at hl 1 rfl) ?_
  refine lv_aload_n hx hb dL_law_734 rfl (lv_at hl 0 rfl) ?_
  refine lv_iload_n hx hb dL_law_735 rfl (lv_at hl 3 rfl) ?_
  refine lv_iconst (v := 1) hx hb dL_law_736 (by decide) ?_
  refine lv_iadd hx hb dL_law_737 ?_
  refine va_sld hx hb hX hbl hbA hS (ix_in (k := 1) hi (by decide) hL) dL_law_738 ?_
  refine lv_aload_n hx hb dL_law_739 rfl (lv_at hl 0 rfl) ?_
  refine lv_iload_n hx hb dL_law_740 rfl (lv_at hl 3 rfl) ?_
  refine lv_iconst (v := 2) hx hb dL_law_741 (by decide) ?_
  refine lv_iadd hx hb dL_law_742 ?_
  refine va_sld hx hb hX hbl hbA hS (ix_in (k := 2) hi (by decide) hL) dL_law_743 ?_
  obtain ⟨r1, r2, h1, h2, e12, hRel⟩ := hB sg M hR (xs (nI i + (1 : Int32)).toNatClampNeg) (xs (nI i + (2 : Int32)).toNatClampNeg)
  refine ca_i (w' := LW cy hk u hm v (va_up sg 0 r1.2) M) (rn_V (As := [.int (xs (nI i + (1 : Int32)).toNatClampNeg), .int (xs (nI i + (2 : Int32)).toNatClampNeg)]) (rest := []) ⟨hx, hb, hml, hown, hts⟩ (kX10_farmer l D cy hk (u 0) (u 1) (sg 0) (sg 1) (xs (nI i + (1 : Int32)).toNatClampNeg) (xs (nI i + (2 : Int32)).toNatClampNeg) r1 h1 H.size) (cwV 2 hts gL_law_X10_farmer rfl rfl rfl (by decide +kernel) ⟨Nat.le_of_ble_eq_true rfl, Nat.le_of_ble_eq_true rfl⟩) hK hN hP hD [0, 1] rfl rfl (ci := 10) (q0 := 0) rfl rfl rfl rfl hl.1 rfl (Nat.le_of_ble_eq_true rfl) dL_law_744 ⟨Nat.le_refl _, Nat.le_refl _⟩) hP hD hS hA [0, 1] ⟨rfl, rfl, rfl, rfl⟩ (fun H locs hP hD hS => ?_)
  refine lv_aload_n hx hb dL_law_747 rfl (lv_at hl 2 rfl) ?_
  refine lv_aload_n hx hb dL_law_748 rfl (lv_at hl 0 rfl) ?_
  refine lv_iload_n hx hb dL_law_749 rfl (lv_at hl 3 rfl) ?_
  refine lv_iconst (v := 1) hx hb dL_law_750 (by decide) ?_
  refine lv_iadd hx hb dL_law_751 ?_
  refine va_sld hx hb hX hbl hbA hS (ix_in (k := 1) hi (by decide) hL) dL_law_752 ?_
  refine lv_aload_n hx hb dL_law_753 rfl (lv_at hl 0 rfl) ?_
  refine lv_iload_n hx hb dL_law_754 rfl (lv_at hl 3 rfl) ?_
  refine lv_iconst (v := 2) hx hb dL_law_755 (by decide) ?_
  refine lv_iadd hx hb dL_law_756 ?_
  refine va_sld hx hb hX hbl hbA hS (ix_in (k := 2) hi (by decide) hL) dL_law_757 ?_
  refine ca_i (w' := LW cy hk u hm v (va_up sg 0 r1.2) r2.2) (rn_V (As := [.int (xs (nI i + (1 : Int32)).toNatClampNeg), .int (xs (nI i + (2 : Int32)).toNatClampNeg)]) (rest := [.int r1.1]) ⟨hx, hb, hml, hown, hts⟩ (kX11_farmer l D cy hm (v 0) M (xs (nI i + (1 : Int32)).toNatClampNeg) (xs (nI i + (2 : Int32)).toNatClampNeg) r2 h2 H.size) (cwV 2 hts gL_law_X11_farmer rfl rfl rfl (by decide +kernel) ⟨Nat.le_of_ble_eq_true rfl, Nat.le_of_ble_eq_true rfl⟩) hK hN hP hD [24] rfl rfl (ci := 11) (q0 := 99) rfl rfl rfl rfl hl.1 rfl (Nat.le_of_ble_eq_true rfl) dL_law_758 ⟨Nat.le_refl _, Nat.le_refl _⟩) hP hD hS hA [24] ⟨rfl, rfl, rfl, rfl⟩ (fun H locs hP hD hS => ?_)
  refine lv_icmp_eq (tgt := 2210) hx hb dL_law_761 (by decide) (fun _ => ?_) (fun z => absurd e12 z)
  exact kk _ _ H locs hRel hP hD hS
theorem dL_law_766 : decode cL_law 766 = .ok (.aload_n 1, 1) := by decide +kernel
theorem dL_law_767 : decode cL_law 767 = .ok (.aload_n 0, 1) := by decide +kernel
theorem dL_law_768 : decode cL_law 768 = .ok (.iload_n 3, 1) := by decide +kernel
theorem dL_law_769 : decode cL_law 769 = .ok (.iconst 1, 1) := by decide +kernel
theorem dL_law_770 : decode cL_law 770 = .ok (.iadd, 1) := by decide +kernel
theorem dL_law_771 : decode cL_law 771 = .ok (.iaload, 1) := by decide +kernel
theorem dL_law_772 : decode cL_law 772 = .ok (.aload_n 0, 1) := by decide +kernel
theorem dL_law_773 : decode cL_law 773 = .ok (.iload_n 3, 1) := by decide +kernel
theorem dL_law_774 : decode cL_law 774 = .ok (.iconst 2, 1) := by decide +kernel
theorem dL_law_775 : decode cL_law 775 = .ok (.iadd, 1) := by decide +kernel
theorem dL_law_776 : decode cL_law 776 = .ok (.iaload, 1) := by decide +kernel
theorem dL_law_777 : decode cL_law 777 = .ok (.invokevirtual 76, 3) := by decide +kernel
theorem dL_law_780 : decode cL_law 780 = .ok (.aload_n 2, 1) := by decide +kernel
theorem dL_law_781 : decode cL_law 781 = .ok (.aload_n 0, 1) := by decide +kernel
theorem dL_law_782 : decode cL_law 782 = .ok (.iload_n 3, 1) := by decide +kernel
theorem dL_law_783 : decode cL_law 783 = .ok (.iconst 1, 1) := by decide +kernel
theorem dL_law_784 : decode cL_law 784 = .ok (.iadd, 1) := by decide +kernel
theorem dL_law_785 : decode cL_law 785 = .ok (.iaload, 1) := by decide +kernel
theorem dL_law_786 : decode cL_law 786 = .ok (.aload_n 0, 1) := by decide +kernel
theorem dL_law_787 : decode cL_law 787 = .ok (.iload_n 3, 1) := by decide +kernel
theorem dL_law_788 : decode cL_law 788 = .ok (.iconst 2, 1) := by decide +kernel
theorem dL_law_789 : decode cL_law 789 = .ok (.iadd, 1) := by decide +kernel
theorem dL_law_790 : decode cL_law 790 = .ok (.iaload, 1) := by decide +kernel
theorem dL_law_791 : decode cL_law 791 = .ok (.invokevirtual 79, 3) := by decide +kernel
theorem dL_law_794 : decode cL_law 794 = .ok (.if_icmp .eq 1416, 3) := by decide +kernel
set_option maxHeartbeats 8000000 in
set_option maxRecDepth 100000 in
theorem law_dislikes {Rel : (Nat → Rc) → Rc → Prop} (hB : BT_dislikes Rel) {p : Program} {l : Launch} {e : Env} {s : State} {m : MethodId} {below : List Frame} {meth : Method} {c : Code} {b L : Nat} {xs : Nat → Int32} {D : va_G} {cy : Nat → ClassId} {S : Nat → Nat} {A : Nat → Prop} {Q : State → Prop} {hk hm : Nat} {u v : Nat → Nat → Nat} (C : LC p s m meth c b L xs D cy S A) (hL : L ≤ 3072) {sg : Nat → Rc} {M : Rc} (hR : Rel sg M) {i : Nat} (hi : i + 6 ≤ L) {H : Heap} {locs : List Loc} {ls : Array Slot} (hl : lv_has ls 4 [(0, .ref b), (1, .ref hk), (2, .ref hm), (3, .int (nI i))]) (hP : va_P D vwCl (flat (LW cy hk u hm v sg M)) H) (hD : va_D A (flat (LW cy hk u hm v sg M))) (hS : va_S A s.heap H locs)
    (kk : ∀ (sg : Nat → Rc) (M : Rc) (H : Heap) (locs : List Loc), Rel sg M → va_P D vwCl (flat (LW cy hk u hm v sg M)) H → va_D A (flat (LW cy hk u hm v sg M)) → va_S A s.heap H locs → W p l e room_1 s m #[Value.ref b] below meth c H locs 113 16160 Q (F0 m 2210 ls [])) : W p l e room_1 s m #[Value.ref b] below meth c H locs 113 16160 Q (F0 m 766 ls []) := by
  obtain ⟨hx, hb, hml, hown, hts, hK, hN, hSX, hX, hbl, hbA, hA⟩ := C
  refine lv_aload_n hx hb dL_law_766 rfl (lv_at hl 1 rfl) ?_
  refine lv_aload_n hx hb dL_law_767 rfl (lv_at hl 0 rfl) ?_
  refine lv_iload_n hx hb dL_law_768 rfl (lv_at hl 3 rfl) ?_
  refine lv_iconst (v := 1) hx hb dL_law_769 (by decide) ?_
  refine lv_iadd hx hb dL_law_770 ?_
  refine va_sld hx hb hX hbl hbA hS (ix_in (k := 1) hi (by decide) hL) dL_law_771 ?_
  refine lv_aload_n hx hb dL_law_772 rfl (lv_at hl 0 rfl) ?_
  refine lv_iload_n hx hb dL_law_773 rfl (lv_at hl 3 rfl) ?_
  refine lv_iconst (v := 2) hx hb dL_law_774 (by decide) ?_
  refine lv_iadd hx hb dL_law_775 ?_
  refine va_sld hx hb hX hbl hbA hS (ix_in (k := 2) hi (by decide) hL) dL_law_776 ?_
  obtain ⟨r1, r2, h1, h2, e12, hRel⟩ := hB sg M hR (xs (nI i + (1 : Int32)).toNatClampNeg) (xs (nI i + (2 : Int32)).toNatClampNeg)
  refine ca_i (w' := LW cy hk u hm v (va_up sg 0 r1.2) M) (rn_V (As := [.int (xs (nI i + (1 : Int32)).toNatClampNeg), .int (xs (nI i + (2 : Int32)).toNatClampNeg)]) (rest := []) ⟨hx, hb, hml, hown, hts⟩ (kX10_dislikes l D cy hk (u 0) (u 1) (sg 0) (sg 1) (xs (nI i + (1 : Int32)).toNatClampNeg) (xs (nI i + (2 : Int32)).toNatClampNeg) r1 h1 H.size) (cwV 2 hts gL_law_X10_dislikes rfl rfl rfl (by decide +kernel) ⟨Nat.le_of_ble_eq_true rfl, Nat.le_of_ble_eq_true rfl⟩) hK hN hP hD [0, 1] rfl rfl (ci := 10) (q0 := 0) rfl rfl rfl rfl hl.1 rfl (Nat.le_of_ble_eq_true rfl) dL_law_777 ⟨Nat.le_refl _, Nat.le_refl _⟩) hP hD hS hA [0, 1] ⟨rfl, rfl, rfl, rfl⟩ (fun H locs hP hD hS => ?_)
  refine lv_aload_n hx hb dL_law_780 rfl (lv_at hl 2 rfl) ?_
  refine lv_aload_n hx hb dL_law_781 rfl (lv_at hl 0 rfl) ?_
  refine lv_iload_n hx hb dL_law_782 rfl (lv_at hl 3 rfl) ?_
  refine lv_iconst (v := 1) hx hb dL_law_783 (by decide) ?_
  refine lv_iadd hx hb dL_law_784 ?_
  refine va_sld hx hb hX hbl hbA hS (ix_in (k := 1) hi (by decide) hL) dL_law_785 ?_
  refine lv_aload_n hx hb dL_law_786 rfl (lv_at hl 0 rfl) ?_
  refine lv_iload_n hx hb dL_law_787 rfl (lv_at hl 3 rfl) ?_
  refine lv_iconst (v := 2) hx hb dL_law_788 (by decide) ?_
  refine lv_iadd hx hb dL_law_789 ?_
  refine va_sld hx hb hX hbl hbA hS (ix_in (k := 2) hi (by decide) hL) dL_law_790 ?_
  refine ca_i (w' := LW cy hk u hm v (va_up sg 0 r1.2) r2.2) (rn_V (As := [.int (xs (nI i + (1 : Int32)).toNatClampNeg), .int (xs (nI i + (2 : Int32)).toNatClampNeg)]) (rest := [.int r1.1]) ⟨hx, hb, hml, hown, hts⟩ (kX11_dislikes l D cy hm (v 0) M (xs (nI i + (1 : Int32)).toNatClampNeg) (xs (nI i + (2 : Int32)).toNatClampNeg) r2 h2 H.size) (cwV 2 hts gL_law_X11_dislikes rfl rfl rfl (by decide +kernel) ⟨Nat.le_of_ble_eq_true rfl, Nat.le_of_ble_eq_true rfl⟩) hK hN hP hD [24] rfl rfl (ci := 11) (q0 := 99) rfl rfl rfl rfl hl.1 rfl (Nat.le_of_ble_eq_true rfl) dL_law_791 ⟨Nat.le_refl _, Nat.le_refl _⟩) hP hD hS hA [24] ⟨rfl, rfl, rfl, rfl⟩ (fun H locs hP hD hS => ?_)
  refine lv_icmp_eq (tgt := 2210) hx hb dL_law_794 (by decide) (fun _ => ?_) (fun z => absurd e12 z)
  exact kk _ _ H locs hRel hP hD hS
theorem dL_law_799 : decode cL_law 799 = .ok (.aload_n 1, 1) := by decide +kernel
theorem dL_law_800 : decode cL_law 800 = .ok (.aload_n 0, 1) := by decide +kernel
theorem dL_law_801 : decode cL_law 801 = .ok (.iload_n 3, 1) := by decide +kernel
theorem dL_law_802 : decode cL_law 802 = .ok (.iconst 1, 1) := by decide +kernel
theorem dL_law_803 : decode cL_law 803 = .ok (.iadd, 1) := by decide +kernel
theorem dL_law_804 : decode cL_law 804 = .ok (.iaload, 1) := by decide +kernel
theorem dL_law_805 : decode cL_law 805 = .ok (.invokevirtual 80, 3) := by decide +kernel
theorem dL_law_808 : decode cL_law 808 = .ok (.aload_n 2, 1) := by decide +kernel
theorem dL_law_809 : decode cL_law 809 = .ok (.aload_n 0, 1) := by decide +kernel
theorem dL_law_810 : decode cL_law 810 = .ok (.iload_n 3, 1) := by decide +kernel
theorem dL_law_811 : decode cL_law 811 = .ok (.iconst 1, 1) := by decide +kernel
theorem dL_law_812 : decode cL_law 812 = .ok (.iadd, 1) := by decide +kernel
theorem dL_law_813 : decode cL_law 813 = .ok (.iaload, 1) := by decide +kernel
theorem dL_law_814 : decode cL_law 814 = .ok (.invokevirtual 83, 3) := by decide +kernel
theorem dL_law_817 : decode cL_law 817 = .ok (.if_icmp .eq 1393, 3) := by decide +kernel
set_option maxHeartbeats 8000000 in
set_option maxRecDepth 100000 in
theorem law_weather {Rel : (Nat → Rc) → Rc → Prop} (hB : BT_weather Rel) {p : Program} {l : Launch} {e : Env} {s : State} {m : MethodId} {below : List Frame} {meth : Method} {c : Code} {b L : Nat} {xs : Nat → Int32} {D : va_G} {cy : Nat → ClassId} {S : Nat → Nat} {A : Nat → Prop} {Q : State → Prop} {hk hm : Nat} {u v : Nat → Nat → Nat} (C : LC p s m meth c b L xs D cy S A) (hL : L ≤ 3072) {sg : Nat → Rc} {M : Rc} (hR : Rel sg M) {i : Nat} (hi : i + 6 ≤ L) {H : Heap} {locs : List Loc} {ls : Array Slot} (hl : lv_has ls 4 [(0, .ref b), (1, .ref hk), (2, .ref hm), (3, .int (nI i))]) (hP : va_P D vwCl (flat (LW cy hk u hm v sg M)) H) (hD : va_D A (flat (LW cy hk u hm v sg M))) (hS : va_S A s.heap H locs)
    (kk : ∀ (sg : Nat → Rc) (M : Rc) (H : Heap) (locs : List Loc), Rel sg M → va_P D vwCl (flat (LW cy hk u hm v sg M)) H → va_D A (flat (LW cy hk u hm v sg M)) → va_S A s.heap H locs → W p l e room_1 s m #[Value.ref b] below meth c H locs 113 16160 Q (F0 m 2210 ls [])) : W p l e room_1 s m #[Value.ref b] below meth c H locs 113 16160 Q (F0 m 799 ls []) := by
  obtain ⟨hx, hb, hml, hown, hts, hK, hN, hSX, hX, hbl, hbA, hA⟩ := C
  refine lv_aload_n hx hb dL_law_799 rfl (lv_at hl 1 rfl) ?_
  refine lv_aload_n hx hb dL_law_800 rfl (lv_at hl 0 rfl) ?_
  refine lv_iload_n hx hb dL_law_801 rfl (lv_at hl 3 rfl) ?_
  refine lv_iconst (v := 1) hx hb dL_law_802 (by decide) ?_
  refine lv_iadd hx hb dL_law_803 ?_
  refine va_sld hx hb hX hbl hbA hS (ix_in (k := 1) hi (by decide) hL) dL_law_804 ?_
  obtain ⟨r1, r2, h1, h2, e12, hRel⟩ := hB sg M hR (xs (nI i + (1 : Int32)).toNatClampNeg)
  refine ca_i (w' := LW cy hk u hm v (va_up sg 0 r1.2) M) (rn_V (As := [.int (xs (nI i + (1 : Int32)).toNatClampNeg)]) (rest := []) ⟨hx, hb, hml, hown, hts⟩ (kX10_weather l D cy hk (u 0) (u 1) (sg 0) (sg 1) (xs (nI i + (1 : Int32)).toNatClampNeg) r1 h1 H.size) (cwV 1 hts gL_law_X10_weather rfl rfl rfl (by decide +kernel) ⟨Nat.le_of_ble_eq_true rfl, Nat.le_of_ble_eq_true rfl⟩) hK hN hP hD [0, 1] rfl rfl (ci := 10) (q0 := 0) rfl rfl rfl rfl hl.1 rfl (Nat.le_of_ble_eq_true rfl) dL_law_805 ⟨Nat.le_refl _, Nat.le_refl _⟩) hP hD hS hA [0, 1] ⟨rfl, rfl, rfl, rfl⟩ (fun H locs hP hD hS => ?_)
  refine lv_aload_n hx hb dL_law_808 rfl (lv_at hl 2 rfl) ?_
  refine lv_aload_n hx hb dL_law_809 rfl (lv_at hl 0 rfl) ?_
  refine lv_iload_n hx hb dL_law_810 rfl (lv_at hl 3 rfl) ?_
  refine lv_iconst (v := 1) hx hb dL_law_811 (by decide) ?_
  refine lv_iadd hx hb dL_law_812 ?_
  refine va_sld hx hb hX hbl hbA hS (ix_in (k := 1) hi (by decide) hL) dL_law_813 ?_
  refine ca_i (w' := LW cy hk u hm v (va_up sg 0 r1.2) r2.2) (rn_V (As := [.int (xs (nI i + (1 : Int32)).toNatClampNeg)]) (rest := [.int r1.1]) ⟨hx, hb, hml, hown, hts⟩ (kX11_weather l D cy hm (v 0) M (xs (nI i + (1 : Int32)).toNatClampNeg) r2 h2 H.size) (cwV 1 hts gL_law_X11_weather rfl rfl rfl (by decide +kernel) ⟨Nat.le_of_ble_eq_true rfl, Nat.le_of_ble_eq_true rfl⟩) hK hN hP hD [24] rfl rfl (ci := 11) (q0 := 99) rfl rfl rfl rfl hl.1 rfl (Nat.le_of_ble_eq_true rfl) dL_law_814 ⟨Nat.le_refl _, Nat.le_refl _⟩) hP hD hS hA [24] ⟨rfl, rfl, rfl, rfl⟩ (fun H locs hP hD hS => ?_)
  refine lv_icmp_eq (tgt := 2210) hx hb dL_law_817 (by decide) (fun _ => ?_) (fun z => absurd e12 z)
  exact kk _ _ H locs hRel hP hD hS
theorem dL_law_822 : decode cL_law 822 = .ok (.aload_n 1, 1) := by decide +kernel
theorem dL_law_823 : decode cL_law 823 = .ok (.aload_n 0, 1) := by decide +kernel
theorem dL_law_824 : decode cL_law 824 = .ok (.iload_n 3, 1) := by decide +kernel
theorem dL_law_825 : decode cL_law 825 = .ok (.iconst 1, 1) := by decide +kernel
theorem dL_law_826 : decode cL_law 826 = .ok (.iadd, 1) := by decide +kernel
theorem dL_law_827 : decode cL_law 827 = .ok (.iaload, 1) := by decide +kernel
theorem dL_law_828 : decode cL_law 828 = .ok (.aload_n 0, 1) := by decide +kernel
theorem dL_law_829 : decode cL_law 829 = .ok (.iload_n 3, 1) := by decide +kernel
theorem dL_law_830 : decode cL_law 830 = .ok (.iconst 2, 1) := by decide +kernel
theorem dL_law_831 : decode cL_law 831 = .ok (.iadd, 1) := by decide +kernel
theorem dL_law_832 : decode cL_law 832 = .ok (.iaload, 1) := by decide +kernel
theorem dL_law_833 : decode cL_law 833 = .ok (.invokevirtual 84, 3) := by decide +kernel
theorem dL_law_836 : decode cL_law 836 = .ok (.aload_n 2, 1) := by decide +kernel
theorem dL_law_837 : decode cL_law 837 = .ok (.aload_n 0, 1) := by decide +kernel
theorem dL_law_838 : decode cL_law 838 = .ok (.iload_n 3, 1) := by decide +kernel
theorem dL_law_839 : decode cL_law 839 = .ok (.iconst 1, 1) := by decide +kernel
theorem dL_law_840 : decode cL_law 840 = .ok (.iadd, 1) := by decide +kernel
theorem dL_law_841 : decode cL_law 841 = .ok (.iaload, 1) := by decide +kernel
theorem dL_law_842 : decode cL_law 842 = .ok (.aload_n 0, 1) := by decide +kernel
theorem dL_law_843 : decode cL_law 843 = .ok (.iload_n 3, 1) := by decide +kernel
theorem dL_law_844 : decode cL_law 844 = .ok (.iconst 2, 1) := by decide +kernel
theorem dL_law_845 : decode cL_law 845 = .ok (.iadd, 1) := by decide +kernel
theorem dL_law_846 : decode cL_law 846 = .ok (.iaload, 1) := by decide +kernel
theorem dL_law_847 : decode cL_law 847 = .ok (.invokevirtual 87, 3) := by decide +kernel
theorem dL_law_850 : decode cL_law 850 = .ok (.if_icmp .eq 1360, 3) := by decide +kernel
set_option maxHeartbeats 8000000 in
set_option maxRecDepth 100000 in
theorem law_should {Rel : (Nat → Rc) → Rc → Prop} (hB : BT_should Rel) {p : Program} {l : Launch} {e : Env} {s : State} {m : MethodId} {below : List Frame} {meth : Method} {c : Code} {b L : Nat} {xs : Nat → Int32} {D : va_G} {cy : Nat → ClassId} {S : Nat → Nat} {A : Nat → Prop} {Q : State → Prop} {hk hm : Nat} {u v : Nat → Nat → Nat} (C : LC p s m meth c b L xs D cy S A) (hL : L ≤ 3072) {sg : Nat → Rc} {M : Rc} (hR : Rel sg M) {i : Nat} (hi : i + 6 ≤ L) {H : Heap} {locs : List Loc} {ls : Array Slot} (hl : lv_has ls 4 [(0, .ref b), (1, .ref hk), (2, .ref hm), (3, .int (nI i))]) (hP : va_P D vwCl (flat (LW cy hk u hm v sg M)) H) (hD : va_D A (flat (LW cy hk u hm v sg M))) (hS : va_S A s.heap H locs)
    (kk : ∀ (sg : Nat → Rc) (M : Rc) (H : Heap) (locs : List Loc), Rel sg M → va_P D vwCl (flat (LW cy hk u hm v sg M)) H → va_D A (flat (LW cy hk u hm v sg M)) → va_S A s.heap H locs → W p l e room_1 s m #[Value.ref b] below meth c H locs 113 16160 Q (F0 m 2210 ls [])) : W p l e room_1 s m #[Value.ref b] below meth c H locs 113 16160 Q (F0 m 822 ls []) := by
  obtain ⟨hx, hb, hml, hown, hts, hK, hN, hSX, hX, hbl, hbA, hA⟩ := C
  refine lv_aload_n hx hb dL_law_822 rfl (lv_at hl 1 rfl) ?_
  refine lv_aload_n hx hb dL_law_823 rfl (lv_at hl 0 rfl) ?_
  refine lv_iload_n hx hb dL_law_824 rfl (lv_at hl 3 rfl) ?_
  refine lv_iconst (v := 1) hx hb dL_law_825 (by decide) ?_
  refine lv_iadd hx hb dL_law_826 ?_
  refine va_sld hx hb hX hbl hbA hS (ix_in (k := 1) hi (by decide) hL) dL_law_827 ?_
  refine lv_aload_n hx hb dL_law_828 rfl (lv_at hl 0 rfl) ?_
  refine lv_iload_n hx hb dL_law_829 rfl (lv_at hl 3 rfl) ?_
  refine lv_iconst (v := 2) hx hb dL_law_830 (by decide) ?_
  refine lv_iadd hx hb dL_law_831 ?_
  refine va_sld hx hb hX hbl hbA hS (ix_in (k := 2) hi (by decide) hL) dL_law_832 ?_
  obtain ⟨r1, r2, h1, h2, e12, hRel⟩ := hB sg M hR (xs (nI i + (1 : Int32)).toNatClampNeg) (xs (nI i + (2 : Int32)).toNatClampNeg)
  refine ca_i (w' := LW cy hk u hm v (va_up sg 0 r1.2) M) (rn_V (As := [.int (xs (nI i + (1 : Int32)).toNatClampNeg), .int (xs (nI i + (2 : Int32)).toNatClampNeg)]) (rest := []) ⟨hx, hb, hml, hown, hts⟩ (kX10_should l D cy hk (u 0) (u 1) (sg 0) (sg 1) (xs (nI i + (1 : Int32)).toNatClampNeg) (xs (nI i + (2 : Int32)).toNatClampNeg) r1 h1 H.size) (cwV 2 hts gL_law_X10_should rfl rfl rfl (by decide +kernel) ⟨Nat.le_of_ble_eq_true rfl, Nat.le_of_ble_eq_true rfl⟩) hK hN hP hD [0, 1] rfl rfl (ci := 10) (q0 := 0) rfl rfl rfl rfl hl.1 rfl (Nat.le_of_ble_eq_true rfl) dL_law_833 ⟨Nat.le_refl _, Nat.le_refl _⟩) hP hD hS hA [0, 1] ⟨rfl, rfl, rfl, rfl⟩ (fun H locs hP hD hS => ?_)
  refine lv_aload_n hx hb dL_law_836 rfl (lv_at hl 2 rfl) ?_
  refine lv_aload_n hx hb dL_law_837 rfl (lv_at hl 0 rfl) ?_
  refine lv_iload_n hx hb dL_law_838 rfl (lv_at hl 3 rfl) ?_
  refine lv_iconst (v := 1) hx hb dL_law_839 (by decide) ?_
  refine lv_iadd hx hb dL_law_840 ?_
  refine va_sld hx hb hX hbl hbA hS (ix_in (k := 1) hi (by decide) hL) dL_law_841 ?_
  refine lv_aload_n hx hb dL_law_842 rfl (lv_at hl 0 rfl) ?_
  refine lv_iload_n hx hb dL_law_843 rfl (lv_at hl 3 rfl) ?_
  refine lv_iconst (v := 2) hx hb dL_law_844 (by decide) ?_
  refine lv_iadd hx hb dL_law_845 ?_
  refine va_sld hx hb hX hbl hbA hS (ix_in (k := 2) hi (by decide) hL) dL_law_846 ?_
  refine ca_i (w' := LW cy hk u hm v (va_up sg 0 r1.2) r2.2) (rn_V (As := [.int (xs (nI i + (1 : Int32)).toNatClampNeg), .int (xs (nI i + (2 : Int32)).toNatClampNeg)]) (rest := [.int r1.1]) ⟨hx, hb, hml, hown, hts⟩ (kX11_should l D cy hm (v 0) M (xs (nI i + (1 : Int32)).toNatClampNeg) (xs (nI i + (2 : Int32)).toNatClampNeg) r2 h2 H.size) (cwV 2 hts gL_law_X11_should rfl rfl rfl (by decide +kernel) ⟨Nat.le_of_ble_eq_true rfl, Nat.le_of_ble_eq_true rfl⟩) hK hN hP hD [24] rfl rfl (ci := 11) (q0 := 99) rfl rfl rfl rfl hl.1 rfl (Nat.le_of_ble_eq_true rfl) dL_law_847 ⟨Nat.le_refl _, Nat.le_refl _⟩) hP hD hS hA [24] ⟨rfl, rfl, rfl, rfl⟩ (fun H locs hP hD hS => ?_)
  refine lv_icmp_eq (tgt := 2210) hx hb dL_law_850 (by decide) (fun _ => ?_) (fun z => absurd e12 z)
  exact kk _ _ H locs hRel hP hD hS
theorem dL_law_855 : decode cL_law 855 = .ok (.aload_n 1, 1) := by decide +kernel
theorem dL_law_856 : decode cL_law 856 = .ok (.aload_n 0, 1) := by decide +kernel
theorem dL_law_857 : decode cL_law 857 = .ok (.iload_n 3, 1) := by decide +kernel
theorem dL_law_858 : decode cL_law 858 = .ok (.iconst 1, 1) := by decide +kernel
theorem dL_law_859 : decode cL_law 859 = .ok (.iadd, 1) := by decide +kernel
theorem dL_law_860 : decode cL_law 860 = .ok (.iaload, 1) := by decide +kernel
theorem dL_law_861 : decode cL_law 861 = .ok (.aload_n 0, 1) := by decide +kernel
theorem dL_law_862 : decode cL_law 862 = .ok (.iload_n 3, 1) := by decide +kernel
theorem dL_law_863 : decode cL_law 863 = .ok (.iconst 2, 1) := by decide +kernel
theorem dL_law_864 : decode cL_law 864 = .ok (.iadd, 1) := by decide +kernel
theorem dL_law_865 : decode cL_law 865 = .ok (.iaload, 1) := by decide +kernel
theorem dL_law_866 : decode cL_law 866 = .ok (.invokevirtual 88, 3) := by decide +kernel
theorem dL_law_869 : decode cL_law 869 = .ok (.aload_n 2, 1) := by decide +kernel
theorem dL_law_870 : decode cL_law 870 = .ok (.aload_n 0, 1) := by decide +kernel
theorem dL_law_871 : decode cL_law 871 = .ok (.iload_n 3, 1) := by decide +kernel
theorem dL_law_872 : decode cL_law 872 = .ok (.iconst 1, 1) := by decide +kernel
theorem dL_law_873 : decode cL_law 873 = .ok (.iadd, 1) := by decide +kernel
theorem dL_law_874 : decode cL_law 874 = .ok (.iaload, 1) := by decide +kernel
theorem dL_law_875 : decode cL_law 875 = .ok (.aload_n 0, 1) := by decide +kernel
theorem dL_law_876 : decode cL_law 876 = .ok (.iload_n 3, 1) := by decide +kernel
theorem dL_law_877 : decode cL_law 877 = .ok (.iconst 2, 1) := by decide +kernel
theorem dL_law_878 : decode cL_law 878 = .ok (.iadd, 1) := by decide +kernel
theorem dL_law_879 : decode cL_law 879 = .ok (.iaload, 1) := by decide +kernel
theorem dL_law_880 : decode cL_law 880 = .ok (.invokevirtual 91, 3) := by decide +kernel
theorem dL_law_883 : decode cL_law 883 = .ok (.if_icmp .eq 1327, 3) := by decide +kernel
set_option maxHeartbeats 8000000 in
set_option maxRecDepth 100000 in
theorem law_twinges {Rel : (Nat → Rc) → Rc → Prop} (hB : BT_twinges Rel) {p : Program} {l : Launch} {e : Env} {s : State} {m : MethodId} {below : List Frame} {meth : Method} {c : Code} {b L : Nat} {xs : Nat → Int32} {D : va_G} {cy : Nat → ClassId} {S : Nat → Nat} {A : Nat → Prop} {Q : State → Prop} {hk hm : Nat} {u v : Nat → Nat → Nat} (C : LC p s m meth c b L xs D cy S A) (hL : L ≤ 3072) {sg : Nat → Rc} {M : Rc} (hR : Rel sg M) {i : Nat} (hi : i + 6 ≤ L) {H : Heap} {locs : List Loc} {ls : Array Slot} (hl : lv_has ls 4 [(0, .ref b), (1, .ref hk), (2, .ref hm), (3, .int (nI i))]) (hP : va_P D vwCl (flat (LW cy hk u hm v sg M)) H) (hD : va_D A (flat (LW cy hk u hm v sg M))) (hS : va_S A s.heap H locs)
    (kk : ∀ (sg : Nat → Rc) (M : Rc) (H : Heap) (locs : List Loc), Rel sg M → va_P D vwCl (flat (LW cy hk u hm v sg M)) H → va_D A (flat (LW cy hk u hm v sg M)) → va_S A s.heap H locs → W p l e room_1 s m #[Value.ref b] below meth c H locs 113 16160 Q (F0 m 2210 ls [])) : W p l e room_1 s m #[Value.ref b] below meth c H locs 113 16160 Q (F0 m 855 ls []) := by
  obtain ⟨hx, hb, hml, hown, hts, hK, hN, hSX, hX, hbl, hbA, hA⟩ := C
  refine lv_aload_n hx hb dL_law_855 rfl (lv_at hl 1 rfl) ?_
  refine lv_aload_n hx hb dL_law_856 rfl (lv_at hl 0 rfl) ?_
  refine lv_iload_n hx hb dL_law_857 rfl (lv_at hl 3 rfl) ?_
  refine lv_iconst (v := 1) hx hb dL_law_858 (by decide) ?_
  refine lv_iadd hx hb dL_law_859 ?_
  refine va_sld hx hb hX hbl hbA hS (ix_in (k := 1) hi (by decide) hL) dL_law_860 ?_
  refine lv_aload_n hx hb dL_law_861 rfl (lv_at hl 0 rfl) ?_
  refine lv_iload_n hx hb dL_law_862 rfl (lv_at hl 3 rfl) ?_
  refine lv_iconst (v := 2) hx hb dL_law_863 (by decide) ?_
  refine lv_iadd hx hb dL_law_864 ?_
  refine va_sld hx hb hX hbl hbA hS (ix_in (k := 2) hi (by decide) hL) dL_law_865 ?_
  obtain ⟨r1, r2, h1, h2, e12, hRel⟩ := hB sg M hR (xs (nI i + (1 : Int32)).toNatClampNeg) (xs (nI i + (2 : Int32)).toNatClampNeg)
  refine ca_i (w' := LW cy hk u hm v (va_up sg 0 r1.2) M) (rn_V (As := [.int (xs (nI i + (1 : Int32)).toNatClampNeg), .int (xs (nI i + (2 : Int32)).toNatClampNeg)]) (rest := []) ⟨hx, hb, hml, hown, hts⟩ (kX10_twinges l D cy hk (u 0) (u 1) (sg 0) (sg 1) (xs (nI i + (1 : Int32)).toNatClampNeg) (xs (nI i + (2 : Int32)).toNatClampNeg) r1 h1 H.size) (cwV 2 hts gL_law_X10_twinges rfl rfl rfl (by decide +kernel) ⟨Nat.le_of_ble_eq_true rfl, Nat.le_of_ble_eq_true rfl⟩) hK hN hP hD [0, 1] rfl rfl (ci := 10) (q0 := 0) rfl rfl rfl rfl hl.1 rfl (Nat.le_of_ble_eq_true rfl) dL_law_866 ⟨Nat.le_refl _, Nat.le_refl _⟩) hP hD hS hA [0, 1] ⟨rfl, rfl, rfl, rfl⟩ (fun H locs hP hD hS => ?_)
  refine lv_aload_n hx hb dL_law_869 rfl (lv_at hl 2 rfl) ?_
  refine lv_aload_n hx hb dL_law_870 rfl (lv_at hl 0 rfl) ?_
  refine lv_iload_n hx hb dL_law_871 rfl (lv_at hl 3 rfl) ?_
  refine lv_iconst (v := 1) hx hb dL_law_872 (by decide) ?_
  refine lv_iadd hx hb dL_law_873 ?_
  refine va_sld hx hb hX hbl hbA hS (ix_in (k := 1) hi (by decide) hL) dL_law_874 ?_
  refine lv_aload_n hx hb dL_law_875 rfl (lv_at hl 0 rfl) ?_
  refine lv_iload_n hx hb dL_law_876 rfl (lv_at hl 3 rfl) ?_
  refine lv_iconst (v := 2) hx hb dL_law_877 (by decide) ?_
  refine lv_iadd hx hb dL_law_878 ?_
  refine va_sld hx hb hX hbl hbA hS (ix_in (k := 2) hi (by decide) hL) dL_law_879 ?_
  refine ca_i (w' := LW cy hk u hm v (va_up sg 0 r1.2) r2.2) (rn_V (As := [.int (xs (nI i + (1 : Int32)).toNatClampNeg), .int (xs (nI i + (2 : Int32)).toNatClampNeg)]) (rest := [.int r1.1]) ⟨hx, hb, hml, hown, hts⟩ (kX11_twinges l D cy hm (v 0) M (xs (nI i + (1 : Int32)).toNatClampNeg) (xs (nI i + (2 : Int32)).toNatClampNeg) r2 h2 H.size) (cwV 2 hts gL_law_X11_twinges rfl rfl rfl (by decide +kernel) ⟨Nat.le_of_ble_eq_true rfl, Nat.le_of_ble_eq_true rfl⟩) hK hN hP hD [24] rfl rfl (ci := 11) (q0 := 99) rfl rfl rfl rfl hl.1 rfl (Nat.le_of_ble_eq_true rfl) dL_law_880 ⟨Nat.le_refl _, Nat.le_refl _⟩) hP hD hS hA [24] ⟨rfl, rfl, rfl, rfl⟩ (fun H locs hP hD hS => ?_)
  refine lv_icmp_eq (tgt := 2210) hx hb dL_law_883 (by decide) (fun _ => ?_) (fun z => absurd e12 z)
  exact kk _ _ H locs hRel hP hD hS
theorem dL_law_888 : decode cL_law 888 = .ok (.aload_n 1, 1) := by decide +kernel
theorem dL_law_889 : decode cL_law 889 = .ok (.aload_n 0, 1) := by decide +kernel
theorem dL_law_890 : decode cL_law 890 = .ok (.iload_n 3, 1) := by decide +kernel
theorem dL_law_891 : decode cL_law 891 = .ok (.iconst 1, 1) := by decide +kernel
theorem dL_law_892 : decode cL_law 892 = .ok (.iadd, 1) := by decide +kernel
theorem dL_law_893 : decode cL_law 893 = .ok (.iaload, 1) := by decide +kernel
theorem dL_law_894 : decode cL_law 894 = .ok (.aload_n 0, 1) := by decide +kernel
theorem dL_law_895 : decode cL_law 895 = .ok (.iload_n 3, 1) := by decide +kernel
theorem dL_law_896 : decode cL_law 896 = .ok (.iconst 2, 1) := by decide +kernel
theorem dL_law_897 : decode cL_law 897 = .ok (.iadd, 1) := by decide +kernel
theorem dL_law_898 : decode cL_law 898 = .ok (.iaload, 1) := by decide +kernel
theorem dL_law_899 : decode cL_law 899 = .ok (.aload_n 0, 1) := by decide +kernel
theorem dL_law_900 : decode cL_law 900 = .ok (.iload_n 3, 1) := by decide +kernel
theorem dL_law_901 : decode cL_law 901 = .ok (.iconst 3, 1) := by decide +kernel
theorem dL_law_902 : decode cL_law 902 = .ok (.iadd, 1) := by decide +kernel
theorem dL_law_903 : decode cL_law 903 = .ok (.iaload, 1) := by decide +kernel
theorem dL_law_904 : decode cL_law 904 = .ok (.ifCond .eq 7, 3) := by decide +kernel
theorem dL_law_907 : decode cL_law 907 = .ok (.iconst 1, 1) := by decide +kernel
theorem dL_law_908 : decode cL_law 908 = .ok (.goto 4, 3) := by decide +kernel
theorem dL_law_911 : decode cL_law 911 = .ok (.iconst 0, 1) := by decide +kernel
theorem dL_law_912 : decode cL_law 912 = .ok (.invokevirtual 92, 3) := by decide +kernel
theorem dL_law_915 : decode cL_law 915 = .ok (.aload_n 2, 1) := by decide +kernel
theorem dL_law_916 : decode cL_law 916 = .ok (.aload_n 0, 1) := by decide +kernel
theorem dL_law_917 : decode cL_law 917 = .ok (.iload_n 3, 1) := by decide +kernel
theorem dL_law_918 : decode cL_law 918 = .ok (.iconst 1, 1) := by decide +kernel
theorem dL_law_919 : decode cL_law 919 = .ok (.iadd, 1) := by decide +kernel
theorem dL_law_920 : decode cL_law 920 = .ok (.iaload, 1) := by decide +kernel
theorem dL_law_921 : decode cL_law 921 = .ok (.aload_n 0, 1) := by decide +kernel
theorem dL_law_922 : decode cL_law 922 = .ok (.iload_n 3, 1) := by decide +kernel
theorem dL_law_923 : decode cL_law 923 = .ok (.iconst 2, 1) := by decide +kernel
theorem dL_law_924 : decode cL_law 924 = .ok (.iadd, 1) := by decide +kernel
theorem dL_law_925 : decode cL_law 925 = .ok (.iaload, 1) := by decide +kernel
theorem dL_law_926 : decode cL_law 926 = .ok (.aload_n 0, 1) := by decide +kernel
theorem dL_law_927 : decode cL_law 927 = .ok (.iload_n 3, 1) := by decide +kernel
theorem dL_law_928 : decode cL_law 928 = .ok (.iconst 3, 1) := by decide +kernel
theorem dL_law_929 : decode cL_law 929 = .ok (.iadd, 1) := by decide +kernel
theorem dL_law_930 : decode cL_law 930 = .ok (.iaload, 1) := by decide +kernel
theorem dL_law_931 : decode cL_law 931 = .ok (.ifCond .eq 7, 3) := by decide +kernel
theorem dL_law_934 : decode cL_law 934 = .ok (.iconst 1, 1) := by decide +kernel
theorem dL_law_935 : decode cL_law 935 = .ok (.goto 4, 3) := by decide +kernel
theorem dL_law_938 : decode cL_law 938 = .ok (.iconst 0, 1) := by decide +kernel
theorem dL_law_939 : decode cL_law 939 = .ok (.invokevirtual 96, 3) := by decide +kernel
theorem dL_law_942 : decode cL_law 942 = .ok (.if_icmp .eq 1268, 3) := by decide +kernel
set_option maxHeartbeats 8000000 in
set_option maxRecDepth 100000 in
theorem law_twinge {Rel : (Nat → Rc) → Rc → Prop} (hB : BT_twinge Rel) {p : Program} {l : Launch} {e : Env} {s : State} {m : MethodId} {below : List Frame} {meth : Method} {c : Code} {b L : Nat} {xs : Nat → Int32} {D : va_G} {cy : Nat → ClassId} {S : Nat → Nat} {A : Nat → Prop} {Q : State → Prop} {hk hm : Nat} {u v : Nat → Nat → Nat} (C : LC p s m meth c b L xs D cy S A) (hL : L ≤ 3072) {sg : Nat → Rc} {M : Rc} (hR : Rel sg M) {i : Nat} (hi : i + 6 ≤ L) {H : Heap} {locs : List Loc} {ls : Array Slot} (hl : lv_has ls 4 [(0, .ref b), (1, .ref hk), (2, .ref hm), (3, .int (nI i))]) (hP : va_P D vwCl (flat (LW cy hk u hm v sg M)) H) (hD : va_D A (flat (LW cy hk u hm v sg M))) (hS : va_S A s.heap H locs)
    (kk : ∀ (sg : Nat → Rc) (M : Rc) (H : Heap) (locs : List Loc), Rel sg M → va_P D vwCl (flat (LW cy hk u hm v sg M)) H → va_D A (flat (LW cy hk u hm v sg M)) → va_S A s.heap H locs → W p l e room_1 s m #[Value.ref b] below meth c H locs 113 16160 Q (F0 m 2210 ls [])) : W p l e room_1 s m #[Value.ref b] below meth c H locs 113 16160 Q (F0 m 888 ls []) := by
  obtain ⟨hx, hb, hml, hown, hts, hK, hN, hSX, hX, hbl, hbA, hA⟩ := C
  refine lv_aload_n hx hb dL_law_888 rfl (lv_at hl 1 rfl) ?_
  refine lv_aload_n hx hb dL_law_889 rfl (lv_at hl 0 rfl) ?_
  refine lv_iload_n hx hb dL_law_890 rfl (lv_at hl 3 rfl) ?_
  refine lv_iconst (v := 1) hx hb dL_law_891 (by decide) ?_
  refine lv_iadd hx hb dL_law_892 ?_
  refine va_sld hx hb hX hbl hbA hS (ix_in (k := 1) hi (by decide) hL) dL_law_893 ?_
  refine lv_aload_n hx hb dL_law_894 rfl (lv_at hl 0 rfl) ?_
  refine lv_iload_n hx hb dL_law_895 rfl (lv_at hl 3 rfl) ?_
  refine lv_iconst (v := 2) hx hb dL_law_896 (by decide) ?_
  refine lv_iadd hx hb dL_law_897 ?_
  refine va_sld hx hb hX hbl hbA hS (ix_in (k := 2) hi (by decide) hL) dL_law_898 ?_
  refine lv_aload_n hx hb dL_law_899 rfl (lv_at hl 0 rfl) ?_
  refine lv_iload_n hx hb dL_law_900 rfl (lv_at hl 3 rfl) ?_
  refine lv_iconst (v := 3) hx hb dL_law_901 (by decide) ?_
  refine lv_iadd hx hb dL_law_902 ?_
  refine va_sld hx hb hX hbl hbA hS (ix_in (k := 3) hi (by decide) hL) dL_law_903 ?_
  refine lv_if_eq (tgt := 911) hx hb dL_law_904 (by decide) (fun cz => ?_) (fun cz => ?_)
  · skip
    refine lv_iconst (v := 0) hx hb dL_law_911 (by decide) ?_
    obtain ⟨r1, r2, h1, h2, e12, hRel⟩ := hB sg M hR (xs (nI i + (1 : Int32)).toNatClampNeg) (xs (nI i + (2 : Int32)).toNatClampNeg) (0 : Int32)
    refine ca_z (w' := LW cy hk u hm v (va_up (va_up sg 0 r1.2.1) 1 r1.2.2) M) (rn_V (As := [.int (xs (nI i + (1 : Int32)).toNatClampNeg), .int (xs (nI i + (2 : Int32)).toNatClampNeg), .int (0 : Int32)]) (rest := []) ⟨hx, hb, hml, hown, hts⟩ (kX10_twinge l D cy hk (u 0) (u 1) (sg 0) (sg 1) (xs (nI i + (1 : Int32)).toNatClampNeg) (xs (nI i + (2 : Int32)).toNatClampNeg) (0 : Int32) r1 h1 H.size) (cwV 3 hts gL_law_X10_twinge rfl rfl rfl (by decide +kernel) ⟨Nat.le_of_ble_eq_true rfl, Nat.le_of_ble_eq_true rfl⟩) hK hN hP hD [0, 1] rfl rfl (ci := 10) (q0 := 0) rfl rfl rfl rfl hl.1 rfl (Nat.le_of_ble_eq_true rfl) dL_law_912 ⟨Nat.le_refl _, Nat.le_refl _⟩) hP hD hS hA [0, 1] ⟨rfl, rfl, rfl, rfl⟩ (fun _ H locs hP hD hS => ?_)
    refine lv_aload_n hx hb dL_law_915 rfl (lv_at hl 2 rfl) ?_
    refine lv_aload_n hx hb dL_law_916 rfl (lv_at hl 0 rfl) ?_
    refine lv_iload_n hx hb dL_law_917 rfl (lv_at hl 3 rfl) ?_
    refine lv_iconst (v := 1) hx hb dL_law_918 (by decide) ?_
    refine lv_iadd hx hb dL_law_919 ?_
    refine va_sld hx hb hX hbl hbA hS (ix_in (k := 1) hi (by decide) hL) dL_law_920 ?_
    refine lv_aload_n hx hb dL_law_921 rfl (lv_at hl 0 rfl) ?_
    refine lv_iload_n hx hb dL_law_922 rfl (lv_at hl 3 rfl) ?_
    refine lv_iconst (v := 2) hx hb dL_law_923 (by decide) ?_
    refine lv_iadd hx hb dL_law_924 ?_
    refine va_sld hx hb hX hbl hbA hS (ix_in (k := 2) hi (by decide) hL) dL_law_925 ?_
    refine lv_aload_n hx hb dL_law_926 rfl (lv_at hl 0 rfl) ?_
    refine lv_iload_n hx hb dL_law_927 rfl (lv_at hl 3 rfl) ?_
    refine lv_iconst (v := 3) hx hb dL_law_928 (by decide) ?_
    refine lv_iadd hx hb dL_law_929 ?_
    refine va_sld hx hb hX hbl hbA hS (ix_in (k := 3) hi (by decide) hL) dL_law_930 ?_
    refine lv_if_eq (tgt := 938) hx hb dL_law_931 (by decide) (fun _ => ?_) (fun z => absurd cz z)
    refine lv_iconst (v := 0) hx hb dL_law_938 (by decide) ?_
    refine ca_z (w' := LW cy hk u hm v (va_up (va_up sg 0 r1.2.1) 1 r1.2.2) r2.2) (rn_V (As := [.int (xs (nI i + (1 : Int32)).toNatClampNeg), .int (xs (nI i + (2 : Int32)).toNatClampNeg), .int (0 : Int32)]) (rest := [.int r1.1]) ⟨hx, hb, hml, hown, hts⟩ (kX11_twinge l D cy hm (v 0) M (xs (nI i + (1 : Int32)).toNatClampNeg) (xs (nI i + (2 : Int32)).toNatClampNeg) (0 : Int32) r2 h2 H.size) (cwV 3 hts gL_law_X11_twinge rfl rfl rfl (by decide +kernel) ⟨Nat.le_of_ble_eq_true rfl, Nat.le_of_ble_eq_true rfl⟩) hK hN hP hD [24] rfl rfl (ci := 11) (q0 := 99) rfl rfl rfl rfl hl.1 rfl (Nat.le_of_ble_eq_true rfl) dL_law_939 ⟨Nat.le_refl _, Nat.le_refl _⟩) hP hD hS hA [24] ⟨rfl, rfl, rfl, rfl⟩ (fun _ H locs hP hD hS => ?_)
    refine lv_icmp_eq (tgt := 2210) hx hb dL_law_942 (by decide) (fun _ => ?_) (fun z => absurd e12 z)
    exact kk _ _ H locs hRel hP hD hS
  · skip
    refine lv_iconst (v := 1) hx hb dL_law_907 (by decide) ?_
    refine lv_goto (tgt := 912) hx hb dL_law_908 (by decide) ?_
    obtain ⟨r1, r2, h1, h2, e12, hRel⟩ := hB sg M hR (xs (nI i + (1 : Int32)).toNatClampNeg) (xs (nI i + (2 : Int32)).toNatClampNeg) (1 : Int32)
    refine ca_z (w' := LW cy hk u hm v (va_up (va_up sg 0 r1.2.1) 1 r1.2.2) M) (rn_V (As := [.int (xs (nI i + (1 : Int32)).toNatClampNeg), .int (xs (nI i + (2 : Int32)).toNatClampNeg), .int (1 : Int32)]) (rest := []) ⟨hx, hb, hml, hown, hts⟩ (kX10_twinge l D cy hk (u 0) (u 1) (sg 0) (sg 1) (xs (nI i + (1 : Int32)).toNatClampNeg) (xs (nI i + (2 : Int32)).toNatClampNeg) (1 : Int32) r1 h1 H.size) (cwV 3 hts gL_law_X10_twinge rfl rfl rfl (by decide +kernel) ⟨Nat.le_of_ble_eq_true rfl, Nat.le_of_ble_eq_true rfl⟩) hK hN hP hD [0, 1] rfl rfl (ci := 10) (q0 := 0) rfl rfl rfl rfl hl.1 rfl (Nat.le_of_ble_eq_true rfl) dL_law_912 ⟨Nat.le_refl _, Nat.le_refl _⟩) hP hD hS hA [0, 1] ⟨rfl, rfl, rfl, rfl⟩ (fun _ H locs hP hD hS => ?_)
    refine lv_aload_n hx hb dL_law_915 rfl (lv_at hl 2 rfl) ?_
    refine lv_aload_n hx hb dL_law_916 rfl (lv_at hl 0 rfl) ?_
    refine lv_iload_n hx hb dL_law_917 rfl (lv_at hl 3 rfl) ?_
    refine lv_iconst (v := 1) hx hb dL_law_918 (by decide) ?_
    refine lv_iadd hx hb dL_law_919 ?_
    refine va_sld hx hb hX hbl hbA hS (ix_in (k := 1) hi (by decide) hL) dL_law_920 ?_
    refine lv_aload_n hx hb dL_law_921 rfl (lv_at hl 0 rfl) ?_
    refine lv_iload_n hx hb dL_law_922 rfl (lv_at hl 3 rfl) ?_
    refine lv_iconst (v := 2) hx hb dL_law_923 (by decide) ?_
    refine lv_iadd hx hb dL_law_924 ?_
    refine va_sld hx hb hX hbl hbA hS (ix_in (k := 2) hi (by decide) hL) dL_law_925 ?_
    refine lv_aload_n hx hb dL_law_926 rfl (lv_at hl 0 rfl) ?_
    refine lv_iload_n hx hb dL_law_927 rfl (lv_at hl 3 rfl) ?_
    refine lv_iconst (v := 3) hx hb dL_law_928 (by decide) ?_
    refine lv_iadd hx hb dL_law_929 ?_
    refine va_sld hx hb hX hbl hbA hS (ix_in (k := 3) hi (by decide) hL) dL_law_930 ?_
    refine lv_if_eq (tgt := 938) hx hb dL_law_931 (by decide) (fun z => absurd z cz) (fun _ => ?_)
    refine lv_iconst (v := 1) hx hb dL_law_934 (by decide) ?_
    refine lv_goto (tgt := 939) hx hb dL_law_935 (by decide) ?_
    refine ca_z (w' := LW cy hk u hm v (va_up (va_up sg 0 r1.2.1) 1 r1.2.2) r2.2) (rn_V (As := [.int (xs (nI i + (1 : Int32)).toNatClampNeg), .int (xs (nI i + (2 : Int32)).toNatClampNeg), .int (1 : Int32)]) (rest := [.int r1.1]) ⟨hx, hb, hml, hown, hts⟩ (kX11_twinge l D cy hm (v 0) M (xs (nI i + (1 : Int32)).toNatClampNeg) (xs (nI i + (2 : Int32)).toNatClampNeg) (1 : Int32) r2 h2 H.size) (cwV 3 hts gL_law_X11_twinge rfl rfl rfl (by decide +kernel) ⟨Nat.le_of_ble_eq_true rfl, Nat.le_of_ble_eq_true rfl⟩) hK hN hP hD [24] rfl rfl (ci := 11) (q0 := 99) rfl rfl rfl rfl hl.1 rfl (Nat.le_of_ble_eq_true rfl) dL_law_939 ⟨Nat.le_refl _, Nat.le_refl _⟩) hP hD hS hA [24] ⟨rfl, rfl, rfl, rfl⟩ (fun _ H locs hP hD hS => ?_)
    refine lv_icmp_eq (tgt := 2210) hx hb dL_law_942 (by decide) (fun _ => ?_) (fun z => absurd e12 z)
    exact kk _ _ H locs hRel hP hD hS
