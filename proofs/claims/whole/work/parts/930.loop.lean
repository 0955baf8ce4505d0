theorem dL_law_18 : decode cL_law 18 = .ok (.iload_n 3, 1) := by decide +kernel
theorem dL_law_19 : decode cL_law 19 = .ok (.aload_n 0, 1) := by decide +kernel
theorem dL_law_20 : decode cL_law 20 = .ok (.arraylength, 1) := by decide +kernel
theorem dL_law_21 : decode cL_law 21 = .ok (.bipush 6, 2) := by decide +kernel
theorem dL_law_23 : decode cL_law 23 = .ok (.isub, 1) := by decide +kernel
theorem dL_law_24 : decode cL_law 24 = .ok (.if_icmp .gt 2192, 3) := by decide +kernel
theorem dL_law_27 : decode cL_law 27 = .ok (.aload_n 0, 1) := by decide +kernel
theorem dL_law_28 : decode cL_law 28 = .ok (.iload_n 3, 1) := by decide +kernel
theorem dL_law_29 : decode cL_law 29 = .ok (.iaload, 1) := by decide +kernel
theorem dL_law_30 : decode cL_law 30 = .ok (.bipush 127, 2) := by decide +kernel
theorem dL_law_32 : decode cL_law 32 = .ok (.iand, 1) := by decide +kernel
theorem dL_law_33 : decode cL_law 33 = .ok (.tableswitch 2177 0 68 #[291, 304, 318, 332, 375, 448, 482, 545, 608, 631, 654, 677, 700, 733, 766, 789, 822, 855, 914, 937, 970, 1003, 1036, 1059, 1092, 1125, 1148, 1171, 1194, 1217, 1230, 1253, 1286, 1299, 1332, 1375, 1408, 1421, 1444, 1467, 1490, 1523, 1566, 1589, 1612, 1645, 1668, 1691, 1724, 1747, 1770, 1793, 1816, 1839, 1852, 1875, 1888, 1911, 1934, 1967, 1980, 2003, 2026, 2049, 2072, 2095, 2118, 2151, 2164], 291) := by decide +kernel
theorem dL_law_2210 : decode cL_law 2210 = .ok (.iinc 3 6, 3) := by decide +kernel
theorem dL_law_2213 : decode cL_law 2213 = .ok (.goto (-2195), 3) := by decide +kernel
theorem dL_law_2216 : decode cL_law 2216 = .ok (.iconst 1, 1) := by decide +kernel
theorem dL_law_2217 : decode cL_law 2217 = .ok (.ireturn, 1) := by decide +kernel
def BTs (Rel : (Nat → Rc) → Rc → Prop) : Prop := BT_status Rel ∧ BT_top Rel ∧ BT_bottom Rel ∧ BT_tray Rel ∧ BT_write Rel ∧ BT_read Rel ∧ BT_pour Rel ∧ BT_feed Rel ∧ BT_bench Rel ∧ BT_season Rel ∧ BT_fault Rel ∧ BT_told Rel ∧ BT_farmer Rel ∧ BT_dislikes Rel ∧ BT_weather Rel ∧ BT_should Rel ∧ BT_twinges Rel ∧ BT_twinge Rel ∧ BT_feel Rel ∧ BT_lie Rel ∧ BT_cure Rel ∧ BT_brandy Rel ∧ BT_day Rel ∧ BT_tells Rel ∧ BT_wrongs Rel ∧ BT_says Rel ∧ BT_tips Rel ∧ BT_right Rel ∧ BT_trust Rel ∧ BT_kept Rel ∧ BT_learn Rel ∧ BT_weigh Rel ∧ BT_truest Rel ∧ BT_odds Rel ∧ BT_hay Rel ∧ BT_wedding Rel ∧ BT_seats Rel ∧ BT_seatAt Rel ∧ BT_fewest Rel ∧ BT_lag Rel ∧ BT_fits Rel ∧ BT_stairs Rel ∧ BT_spell Rel ∧ BT_believers Rel ∧ BT_alike Rel ∧ BT_toldBy Rel ∧ BT_flips Rel ∧ BT_span Rel ∧ BT_rival Rel ∧ BT_quiet Rel ∧ BT_useful Rel ∧ BT_mood Rel ∧ BT_foe Rel ∧ BT_silent Rel ∧ BT_sure Rel ∧ BT_bestLaw Rel ∧ BT_keptBy Rel ∧ BT_streak Rel ∧ BT_clashes Rel ∧ BT_fever Rel ∧ BT_lies Rel ∧ BT_nextWrong Rel ∧ BT_warned Rel ∧ BT_agrees Rel ∧ BT_live Rel ∧ BT_lived Rel ∧ BT_mean Rel ∧ BT_mark Rel ∧ BT_back Rel
set_option maxHeartbeats 8000000 in
set_option maxRecDepth 100000 in
theorem law_loop {Rel : (Nat → Rc) → Rc → Prop} (hBs : BTs Rel) {p : Program} {l : Launch} {e : Env} {s : State} {m : MethodId} {below : List Frame} {meth : Method} {c : Code} {b L : Nat} {xs : Nat → Int32} {D : va_G} {cy : Nat → ClassId} {S : Nat → Nat} {hk hm : Nat} {u v : Nat → Nat → Nat} (C : LC p s m meth c b L xs D cy S (fun q : Nat => s.heap.size ≤ q)) (hL : L ≤ 3072) (hr : meth.sig.returnType = ret) (hlocks : meth.locks = false) : ∀ (n i : Nat) (sg : Nat → Rc) (M : Rc) (H : Heap) (locs : List Loc) (ls : Array Slot), i ≤ L → L - i < n → Rel sg M → lv_has ls 4 [(0, .ref b), (1, .ref hk), (2, .ref hm), (3, .int (nI i))] → va_P D vwCl (flat (LW cy hk u hm v sg M)) H → va_D (fun q : Nat => s.heap.size ≤ q) (flat (LW cy hk u hm v sg M)) → va_S (fun q : Nat => s.heap.size ≤ q) s.heap H locs → W p l e room_1 s m #[Value.ref b] below meth c H locs 113 16160 (lw_Z below #[Value.ref b] s) (F0 m 18 ls []) := by
  obtain ⟨t0, t1, t2, t3, t4, t5, t6, t7, t8, t9, t10, t11, t12, t13, t14, t15, t16, t17, t18, t19, t20, t21, t22, t23, t24, t25, t26, t27, t28, t29, t30, t31, t32, t33, t34, t35, t36, t37, t38, t39, t40, t41, t42, t43, t44, t45, t46, t47, t48, t49, t50, t51, t52, t53, t54, t55, t56, t57, t58, t59, t60, t61, t62, t63, t64, t65, t66, t67, t68⟩ := hBs
  obtain ⟨hx, hb, hml, hown, hts, hK, hN, hSX, hX, hbl, hbA, hA⟩ := id C
  intro n
  induction n with
  | zero => intro i sg M H locs ls hi hn; omega
  | succ n ih =>
    intro i sg M H locs ls hi hn hR hl hP hD hS
    refine lv_iload_n hx hb dL_law_18 rfl (lv_at hl 3 rfl) ?_
    refine lv_aload_n hx hb dL_law_19 rfl (lv_at hl 0 rfl) ?_
    refine va_slen hx hb hX hbl hbA hS dL_law_20 ?_
    refine lv_bipush (v := 6) hx hb dL_law_21 (by decide) ?_
    refine lv_isub hx hb dL_law_23 ?_
    have h6 : (6 : Int32).toInt = 6 := rfl
    have h1 : (Int32.ofNat L).toInt = (L : Int) := nI_toInt (by omega)
    have eL : (Int32.ofNat L - 6).toInt = (L : Int) - 6 := by
      rw [Int32.toInt_sub, h1, h6]; exact Int.bmod_eq_of_le (by omega) (by omega)
    have eI : (nI i).toInt = (i : Int) := nI_toInt (by omega)
    refine lv_icmp_gt (tgt := 2216) hx hb dL_law_24 (by decide) (fun _ => ?_) (fun cE => ?_)
    · refine va_forget (fun q hq => hS.2.2 q hq) ?_
      refine lv_iconst (v := 1) hx hb dL_law_2216 (by decide) ?_
      exact lw_ret hx hb hr hlocks dL_law_2217
    · have hi6 : i + 6 ≤ L := by rw [Int32.lt_iff_toInt_lt, eL, eI] at cE; omega
      have kk : ∀ (sg : Nat → Rc) (M : Rc) (H : Heap) (locs : List Loc), Rel sg M → va_P D vwCl (flat (LW cy hk u hm v sg M)) H → va_D (fun q : Nat => s.heap.size ≤ q) (flat (LW cy hk u hm v sg M)) → va_S (fun q : Nat => s.heap.size ≤ q) s.heap H locs → W p l e room_1 s m #[Value.ref b] below meth c H locs 113 16160 (lw_Z below #[Value.ref b] s) (F0 m 2210 ls []) := by
        intro sg M H locs hR hP hD hS
        refine lv_iinc (v := nI (i + 6)) (lv' := [(3, .int (nI (i + 6))), (0, .ref b), (1, .ref hk), (2, .ref hm)]) hx hb dL_law_2210 hl (k := 3) rfl (nI_add i 6) (by decide) rfl (fun ls hl => ?_)
        refine lv_goto (tgt := 18) hx hb dL_law_2213 (by decide) ?_
        exact ih (i + 6) sg M H locs ls hi6 (by omega) hR (lv_sub hl [1, 2, 3, 0] rfl) hP hD hS
      refine lv_aload_n hx hb dL_law_27 rfl (lv_at hl 0 rfl) ?_
      refine lv_iload_n hx hb dL_law_28 rfl (lv_at hl 3 rfl) ?_
      refine va_sld hx hb hX hbl hbA hS (vp_in_nI (show i < L by omega) (by omega)) dL_law_29 ?_
      refine lv_bipush (v := 127) hx hb dL_law_30 (by decide) ?_
      refine lv_iand hx hb dL_law_32 ?_
      generalize xs (nI i).toNatClampNeg &&& (127 : Int32) = x
      by_cases hq : 0 ≤ x.toInt ∧ x.toInt < 69
      · obtain ⟨k, hk9, ek⟩ : ∃ k, k < 69 ∧ x = nI k := ⟨x.toInt.toNat, by omega, by
          apply Int32.toInt_inj.mp
          rw [nI_toInt (by omega)]
          omega⟩
        subst ek
        match k, hk9 with
        | 0, _ =>
          refine lv_tableIn (tgt := 324) hx hb dL_law_33 (by decide) (by decide) rfl (by decide) ?_
          exact law_status t0 C hL hR hi6 hl hP hD hS kk
        | 1, _ =>
          refine lv_tableIn (tgt := 337) hx hb dL_law_33 (by decide) (by decide) rfl (by decide) ?_
          exact law_top t1 C hL hR hi6 hl hP hD hS kk
        | 2, _ =>
          refine lv_tableIn (tgt := 351) hx hb dL_law_33 (by decide) (by decide) rfl (by decide) ?_
          exact law_bottom t2 C hL hR hi6 hl hP hD hS kk
        | 3, _ =>
          refine lv_tableIn (tgt := 365) hx hb dL_law_33 (by decide) (by decide) rfl (by decide) ?_
          exact law_tray t3 C hL hR hi6 hl hP hD hS kk
        | 4, _ =>
          refine lv_tableIn (tgt := 408) hx hb dL_law_33 (by decide) (by decide) rfl (by decide) ?_
          exact law_write t4 C hL hR hi6 hl hP hD hS kk
        | 5, _ =>
          refine lv_tableIn (tgt := 481) hx hb dL_law_33 (by decide) (by decide) rfl (by decide) ?_
          exact law_read t5 C hL hR hi6 hl hP hD hS kk
        | 6, _ =>
          refine lv_tableIn (tgt := 515) hx hb dL_law_33 (by decide) (by decide) rfl (by decide) ?_
          exact law_pour t6 C hL hR hi6 hl hP hD hS kk
        | 7, _ =>
          refine lv_tableIn (tgt := 578) hx hb dL_law_33 (by decide) (by decide) rfl (by decide) ?_
          exact law_feed t7 C hL hR hi6 hl hP hD hS kk
        | 8, _ =>
          refine lv_tableIn (tgt := 641) hx hb dL_law_33 (by decide) (by decide) rfl (by decide) ?_
          exact law_bench t8 C hL hR hi6 hl hP hD hS kk
        | 9, _ =>
          refine lv_tableIn (tgt := 664) hx hb dL_law_33 (by decide) (by decide) rfl (by decide) ?_
          exact law_season t9 C hL hR hi6 hl hP hD hS kk
        | 10, _ =>
          refine lv_tableIn (tgt := 687) hx hb dL_law_33 (by decide) (by decide) rfl (by decide) ?_
          exact law_fault t10 C hL hR hi6 hl hP hD hS kk
        | 11, _ =>
          refine lv_tableIn (tgt := 710) hx hb dL_law_33 (by decide) (by decide) rfl (by decide) ?_
          exact law_told t11 C hL hR hi6 hl hP hD hS kk
        | 12, _ =>
          refine lv_tableIn (tgt := 733) hx hb dL_law_33 (by decide) (by decide) rfl (by decide) ?_
          exact law_farmer t12 C hL hR hi6 hl hP hD hS kk
        | 13, _ =>
          refine lv_tableIn (tgt := 766) hx hb dL_law_33 (by decide) (by decide) rfl (by decide) ?_
          exact law_dislikes t13 C hL hR hi6 hl hP hD hS kk
        | 14, _ =>
          refine lv_tableIn (tgt := 799) hx hb dL_law_33 (by decide) (by decide) rfl (by decide) ?_
          exact law_weather t14 C hL hR hi6 hl hP hD hS kk
        | 15, _ =>
          refine lv_tableIn (tgt := 822) hx hb dL_law_33 (by decide) (by decide) rfl (by decide) ?_
          exact law_should t15 C hL hR hi6 hl hP hD hS kk
        | 16, _ =>
          refine lv_tableIn (tgt := 855) hx hb dL_law_33 (by decide) (by decide) rfl (by decide) ?_
          exact law_twinges t16 C hL hR hi6 hl hP hD hS kk
        | 17, _ =>
          refine lv_tableIn (tgt := 888) hx hb dL_law_33 (by decide) (by decide) rfl (by decide) ?_
          exact law_twinge t17 C hL hR hi6 hl hP hD hS kk
        | 18, _ =>
          refine lv_tableIn (tgt := 947) hx hb dL_law_33 (by decide) (by decide) rfl (by decide) ?_
          exact law_feel t18 C hL hR hi6 hl hP hD hS kk
        | 19, _ =>
          refine lv_tableIn (tgt := 970) hx hb dL_law_33 (by decide) (by decide) rfl (by decide) ?_
          exact law_lie t19 C hL hR hi6 hl hP hD hS kk
        | 20, _ =>
          refine lv_tableIn (tgt := 1003) hx hb dL_law_33 (by decide) (by decide) rfl (by decide) ?_
          exact law_cure t20 C hL hR hi6 hl hP hD hS kk
        | 21, _ =>
          refine lv_tableIn (tgt := 1036) hx hb dL_law_33 (by decide) (by decide) rfl (by decide) ?_
          exact law_brandy t21 C hL hR hi6 hl hP hD hS kk
        | 22, _ =>
          refine lv_tableIn (tgt := 1069) hx hb dL_law_33 (by decide) (by decide) rfl (by decide) ?_
          exact law_day t22 C hL hR hi6 hl hP hD hS kk
        | 23, _ =>
          refine lv_tableIn (tgt := 1092) hx hb dL_law_33 (by decide) (by decide) rfl (by decide) ?_
          exact law_tells t23 C hL hR hi6 hl hP hD hS kk
        | 24, _ =>
          refine lv_tableIn (tgt := 1125) hx hb dL_law_33 (by decide) (by decide) rfl (by decide) ?_
          exact law_wrongs t24 C hL hR hi6 hl hP hD hS kk
        | 25, _ =>
          refine lv_tableIn (tgt := 1158) hx hb dL_law_33 (by decide) (by decide) rfl (by decide) ?_
          exact law_says t25 C hL hR hi6 hl hP hD hS kk
        | 26, _ =>
          refine lv_tableIn (tgt := 1181) hx hb dL_law_33 (by decide) (by decide) rfl (by decide) ?_
          exact law_tips t26 C hL hR hi6 hl hP hD hS kk
        | 27, _ =>
          refine lv_tableIn (tgt := 1204) hx hb dL_law_33 (by decide) (by decide) rfl (by decide) ?_
          exact law_right t27 C hL hR hi6 hl hP hD hS kk
        | 28, _ =>
          refine lv_tableIn (tgt := 1227) hx hb dL_law_33 (by decide) (by decide) rfl (by decide) ?_
          exact law_trust t28 C hL hR hi6 hl hP hD hS kk
        | 29, _ =>
          refine lv_tableIn (tgt := 1250) hx hb dL_law_33 (by decide) (by decide) rfl (by decide) ?_
          exact law_kept t29 C hL hR hi6 hl hP hD hS kk
        | 30, _ =>
          refine lv_tableIn (tgt := 1263) hx hb dL_law_33 (by decide) (by decide) rfl (by decide) ?_
          exact law_learn t30 C hL hR hi6 hl hP hD hS kk
        | 31, _ =>
          refine lv_tableIn (tgt := 1286) hx hb dL_law_33 (by decide) (by decide) rfl (by decide) ?_
          exact law_weigh t31 C hL hR hi6 hl hP hD hS kk
        | 32, _ =>
          refine lv_tableIn (tgt := 1319) hx hb dL_law_33 (by decide) (by decide) rfl (by decide) ?_
          exact law_truest t32 C hL hR hi6 hl hP hD hS kk
        | 33, _ =>
          refine lv_tableIn (tgt := 1332) hx hb dL_law_33 (by decide) (by decide) rfl (by decide) ?_
          exact law_odds t33 C hL hR hi6 hl hP hD hS kk
        | 34, _ =>
          refine lv_tableIn (tgt := 1365) hx hb dL_law_33 (by decide) (by decide) rfl (by decide) ?_
          exact law_hay t34 C hL hR hi6 hl hP hD hS kk
        | 35, _ =>
          refine lv_tableIn (tgt := 1408) hx hb dL_law_33 (by decide) (by decide) rfl (by decide) ?_
          exact law_wedding t35 C hL hR hi6 hl hP hD hS kk
        | 36, _ =>
          refine lv_tableIn (tgt := 1441) hx hb dL_law_33 (by decide) (by decide) rfl (by decide) ?_
          exact law_seats t36 C hL hR hi6 hl hP hD hS kk
        | 37, _ =>
          refine lv_tableIn (tgt := 1454) hx hb dL_law_33 (by decide) (by decide) rfl (by decide) ?_
          exact law_seatAt t37 C hL hR hi6 hl hP hD hS kk
        | 38, _ =>
          refine lv_tableIn (tgt := 1477) hx hb dL_law_33 (by decide) (by decide) rfl (by decide) ?_
          exact law_fewest t38 C hL hR hi6 hl hP hD hS kk
        | 39, _ =>
          refine lv_tableIn (tgt := 1500) hx hb dL_law_33 (by decide) (by decide) rfl (by decide) ?_
          exact law_lag t39 C hL hR hi6 hl hP hD hS kk
        | 40, _ =>
          refine lv_tableIn (tgt := 1523) hx hb dL_law_33 (by decide) (by decide) rfl (by decide) ?_
          exact law_fits t40 C hL hR hi6 hl hP hD hS kk
        | 41, _ =>
          refine lv_tableIn (tgt := 1556) hx hb dL_law_33 (by decide) (by decide) rfl (by decide) ?_
          exact law_stairs t41 C hL hR hi6 hl hP hD hS kk
        | 42, _ =>
          refine lv_tableIn (tgt := 1599) hx hb dL_law_33 (by decide) (by decide) rfl (by decide) ?_
          exact law_spell t42 C hL hR hi6 hl hP hD hS kk
        | 43, _ =>
          refine lv_tableIn (tgt := 1622) hx hb dL_law_33 (by decide) (by decide) rfl (by decide) ?_
          exact law_believers t43 C hL hR hi6 hl hP hD hS kk
        | 44, _ =>
          refine lv_tableIn (tgt := 1645) hx hb dL_law_33 (by decide) (by decide) rfl (by decide) ?_
          exact law_alike t44 C hL hR hi6 hl hP hD hS kk
        | 45, _ =>
          refine lv_tableIn (tgt := 1678) hx hb dL_law_33 (by decide) (by decide) rfl (by decide) ?_
          exact law_toldBy t45 C hL hR hi6 hl hP hD hS kk
        | 46, _ =>
          refine lv_tableIn (tgt := 1701) hx hb dL_law_33 (by decide) (by decide) rfl (by decide) ?_
          exact law_flips t46 C hL hR hi6 hl hP hD hS kk
        | 47, _ =>
          refine lv_tableIn (tgt := 1724) hx hb dL_law_33 (by decide) (by decide) rfl (by decide) ?_
          exact law_span t47 C hL hR hi6 hl hP hD hS kk
        | 48, _ =>
          refine lv_tableIn (tgt := 1757) hx hb dL_law_33 (by decide) (by decide) rfl (by decide) ?_
          exact law_rival t48 C hL hR hi6 hl hP hD hS kk
        | 49, _ =>
          refine lv_tableIn (tgt := 1780) hx hb dL_law_33 (by decide) (by decide) rfl (by decide) ?_
          exact law_quiet t49 C hL hR hi6 hl hP hD hS kk
        | 50, _ =>
          refine lv_tableIn (tgt := 1803) hx hb dL_law_33 (by decide) (by decide) rfl (by decide) ?_
          exact law_useful t50 C hL hR hi6 hl hP hD hS kk
        | 51, _ =>
          refine lv_tableIn (tgt := 1826) hx hb dL_law_33 (by decide) (by decide) rfl (by decide) ?_
          exact law_mood t51 C hL hR hi6 hl hP hD hS kk
        | 52, _ =>
          refine lv_tableIn (tgt := 1849) hx hb dL_law_33 (by decide) (by decide) rfl (by decide) ?_
          exact law_foe t52 C hL hR hi6 hl hP hD hS kk
        | 53, _ =>
          refine lv_tableIn (tgt := 1872) hx hb dL_law_33 (by decide) (by decide) rfl (by decide) ?_
          exact law_silent t53 C hL hR hi6 hl hP hD hS kk
        | 54, _ =>
          refine lv_tableIn (tgt := 1885) hx hb dL_law_33 (by decide) (by decide) rfl (by decide) ?_
          exact law_sure t54 C hL hR hi6 hl hP hD hS kk
        | 55, _ =>
          refine lv_tableIn (tgt := 1908) hx hb dL_law_33 (by decide) (by decide) rfl (by decide) ?_
          exact law_bestLaw t55 C hL hR hi6 hl hP hD hS kk
        | 56, _ =>
          refine lv_tableIn (tgt := 1921) hx hb dL_law_33 (by decide) (by decide) rfl (by decide) ?_
          exact law_keptBy t56 C hL hR hi6 hl hP hD hS kk
        | 57, _ =>
          refine lv_tableIn (tgt := 1944) hx hb dL_law_33 (by decide) (by decide) rfl (by decide) ?_
          exact law_streak t57 C hL hR hi6 hl hP hD hS kk
        | 58, _ =>
          refine lv_tableIn (tgt := 1967) hx hb dL_law_33 (by decide) (by decide) rfl (by decide) ?_
          exact law_clashes t58 C hL hR hi6 hl hP hD hS kk
        | 59, _ =>
          refine lv_tableIn (tgt := 2000) hx hb dL_law_33 (by decide) (by decide) rfl (by decide) ?_
          exact law_fever t59 C hL hR hi6 hl hP hD hS kk
        | 60, _ =>
          refine lv_tableIn (tgt := 2013) hx hb dL_law_33 (by decide) (by decide) rfl (by decide) ?_
          exact law_lies t60 C hL hR hi6 hl hP hD hS kk
        | 61, _ =>
          refine lv_tableIn (tgt := 2036) hx hb dL_law_33 (by decide) (by decide) rfl (by decide) ?_
          exact law_nextWrong t61 C hL hR hi6 hl hP hD hS kk
        | 62, _ =>
          refine lv_tableIn (tgt := 2059) hx hb dL_law_33 (by decide) (by decide) rfl (by decide) ?_
          exact law_warned t62 C hL hR hi6 hl hP hD hS kk
        | 63, _ =>
          refine lv_tableIn (tgt := 2082) hx hb dL_law_33 (by decide) (by decide) rfl (by decide) ?_
          exact law_agrees t63 C hL hR hi6 hl hP hD hS kk
        | 64, _ =>
          refine lv_tableIn (tgt := 2105) hx hb dL_law_33 (by decide) (by decide) rfl (by decide) ?_
          exact law_live t64 C hL hR hi6 hl hP hD hS kk
        | 65, _ =>
          refine lv_tableIn (tgt := 2128) hx hb dL_law_33 (by decide) (by decide) rfl (by decide) ?_
          exact law_lived t65 C hL hR hi6 hl hP hD hS kk
        | 66, _ =>
          refine lv_tableIn (tgt := 2151) hx hb dL_law_33 (by decide) (by decide) rfl (by decide) ?_
          exact law_mean t66 C hL hR hi6 hl hP hD hS kk
        | 67, _ =>
          refine lv_tableIn (tgt := 2184) hx hb dL_law_33 (by decide) (by decide) rfl (by decide) ?_
          exact law_mark t67 C hL hR hi6 hl hP hD hS kk
        | 68, _ =>
          refine lv_tableIn (tgt := 2197) hx hb dL_law_33 (by decide) (by decide) rfl (by decide) ?_
          exact law_back t68 C hL hR hi6 hl hP hD hS kk
        | k + 69, h9 => omega
      · refine lv_tableOut (tgt := 2210) hx hb dL_law_33 (by omega) (by decide) ?_
        exact kk sg M H locs hR hP hD hS
