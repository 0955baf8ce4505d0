/-! ===== (B) a new day, learning, feeling ===== -/
theorem qb_pure {sg : Nat → Rc} {M : Rc} {c : Int32 × Rc × Rc} {m : Option (Int32 × Rc)} (hR : Rel sg M) (h : QB (some c) m (sg 0) (sg 1) M) : ∃ (r1 : Int32 × Rc × Rc) (r2 : Int32 × Rc), c = r1 ∧ m = some r2 ∧ r1.1 = r2.1 ∧ Rel (va_up (va_up sg 0 r1.2.1) 1 r1.2.2) r2.2 := by
  obtain ⟨r1, r2, e1, e2, e3, e4⟩ := bt_b hR h
  exact ⟨r1, r2, Option.some.inj e1, e2, e3, e4⟩
/-- what a new day makes of a bench -/
def AD (b b' : Rc) (w : Nat) : Prop := gi b' 8 = gi b 8 ∧ gi b' 9 = nI (cD b + 1) ∧ gi b' 12 = gi b 12 ∧ gi b' 13 = gi b 13 ∧ ga b' = ga b ∧ gb b' = gb b ∧ (∀ k, k < 64 → wetB b' k = (wetB b k || decide (k = cD b ∧ ¬ w = 0))) ∧ (∀ k, k < 64 → hailB b' k = (hailB b k || decide (k = cD b ∧ w = 2)))
theorem addDay_eq {b : Rc} (hB : BI b) (hD : cD b < 60) {w : Nat} (hw : w ≤ 2) : AD b (fX0_addDay (nI w) b) w := by
  have e9 : gi b 9 = nI (cD b) := hB.2.1.1
  have one : ∀ k, k < 64 → tb ((1 : Int64) <<< ((gi b 9).toInt64 &&& 63)) k = decide (k = cD b) := fun k hk => by rw [e9]; exact tb_one (by omega) hk
  unfold fX0_addDay fX0_canAddDay fX0_addDay_J27 lt_
  rw [if_neg (show ¬ (60 : Int32) ≤ gi b 9 by rw [e9]; exact nI_ge (b := 60) hD (by decide)), i10]
  have hs : w = 0 ∨ w = 1 ∨ w = 2 := by omega
  rcases hs with rfl | rfl | rfl
  · rw [if_pos (show nI 0 = 0 from rfl), if_neg (show ¬ nI 0 = 2 by decide)]
    refine ⟨rfl, ?_, rfl, rfl, rfl, rfl, fun k hk => ?_, fun k hk => ?_⟩
    · show gi b 9 + 1 = _
      rw [e9, nI_1]
    · show wetB b k = _
      simp
    · show hailB b k = _
      simp
  · rw [if_neg (show ¬ nI 1 = 0 by decide)]
    dsimp only
    rw [if_neg (show ¬ nI 1 = 2 by decide)]
    refine ⟨rfl, ?_, rfl, rfl, rfl, rfl, fun k hk => ?_, fun k hk => ?_⟩
    · show gi b 9 + 1 = _
      rw [e9, nI_1]
    · show tb (gl b 10 ||| _) k = _
      rw [tb_or, one k hk]
      unfold wetB
      simp
    · show hailB b k = _
      simp
  · rw [if_neg (show ¬ nI 2 = 0 by decide)]
    dsimp only
    rw [if_pos (show nI 2 = 2 from rfl)]
    refine ⟨rfl, ?_, rfl, rfl, rfl, rfl, fun k hk => ?_, fun k hk => ?_⟩
    · show gi b 9 + 1 = _
      rw [e9, nI_1]
    · show tb (gl b 10 ||| _) k = _
      rw [tb_or, one k hk]
      unfold wetB
      simp
    · show tb (gl b 11 ||| _) k = _
      rw [tb_or]
      show (tb (gl b 11) k || tb ((1 : Int64) <<< ((gi b 9).toInt64 &&& 63)) k) = _
      rw [one k hk]
      unfold hailB
      simp
theorem tb64 {x : Int64} {k : Nat} (h : tb x k = true) : k < 64 := by
  rcases Nat.lt_or_ge k 64 with q | q
  · exact q
  · rw [tb_ge q] at h; cases h
theorem AD_c {b b' : Rc} {w : Nat} (h : AD b b' w) (hD : cD b < 60) : cF b' = cF b ∧ cD b' = cD b + 1 := by
  unfold cF
  rw [h.1]
  refine ⟨rfl, ?_⟩
  show (gi b' 9).toInt.toNat = _
  rw [h.2.1, nI_toInt (by omega)]
  omega
theorem AD_BI {b b' : Rc} {w : Nat} (h : AD b b' w) (hB : BI b) (hD : cD b < 60) : BI b' := by
  obtain ⟨e1, e2⟩ := AD_c h hD
  obtain ⟨q8, q9, q12, q13, qa, qb, qw, qh⟩ := h
  obtain ⟨⟨h1, h2⟩, ⟨h3, h4⟩, h5, h6, h7, h8, h9, h10, h11⟩ := hB
  unfold BI
  rw [e1, e2, q8, q9, q12, q13, qa]
  refine ⟨⟨h1, h2⟩, ⟨rfl, by omega⟩, fun f hf => ?_, fun k hk => ?_, fun k hk => ?_, h8, h9, h10, h11⟩
  · have := h5 f hf
    unfold BF lagZ curZ wgt tw at *
    rw [qa, qb, e2]
    obtain ⟨a1, a2, a3, a4, a5, a6⟩ := this
    exact ⟨a1, a2, a3, a4, a5, fun k hk => a6 k (by omega)⟩
  · by_cases q : k < 64
    · rw [qw k q, h6 k (by omega), decide_eq_false (by omega)]; rfl
    · exact tb_ge (by omega)
  · have q := tb64 hk
    rw [qh k q] at hk
    rw [qw k q]
    rcases (Bool.or_eq_true _ _).mp hk with z | z
    · rw [h7 k z]; rfl
    · have := of_decide_eq_true z
      rw [decide_eq_true ⟨this.1, by omega⟩, Bool.or_true]
theorem AD_RB {b b' M M' : Rc} {w n : Nat} (hw : w ≤ 2) (h : AD b b' w) (hR : RB b M 0 n) (hD : cD b < 60) (g1 : ga M' 0 1 = nI (cD b + 1)) (gw : ga M' 0 (122 + cD b) = nI w) (gt : ∀ f, f < 8 → ga M' 0 (182 + 60 * f + cD b) = 0) (go : ∀ j, ¬ j = 1 → ¬ j = 122 + cD b → (j < 182 ∨ 662 ≤ j ∨ ¬ (j - 182) % 60 = cD b) → ga M' 0 j = ga M 0 j) (gn : gb M' 1 = gb M 1) : RB b' M' 0 n := by
  obtain ⟨e1, e2⟩ := AD_c h hD
  have hB' := AD_BI h hR.1 hD
  obtain ⟨hB, r0, r1, r2, r3, r4, r5, r6, r7⟩ := hR
  have hF : cF b ≤ 8 := hB.1.2
  obtain ⟨q8, q9, q12, q13, qa, qb, qw, qh⟩ := h
  unfold RB
  rw [e1, e2, q8, q9, q12, qa, qb, gn]
  refine ⟨hB', ?_, g1, ?_, fun f hf => ?_, fun i hi => ?_, fun d hd => ?_, fun f d hf hd => ?_, r7⟩
  · rw [go 0 (by omega) (by omega) (by omega)]; exact r0
  · rw [show 0 + 2 = 2 from rfl, go 2 (by omega) (by omega) (by omega)]; exact r2
  · unfold elbB at *
    rw [go (0 + 10 + 6 * f) (by omega) (by omega) (by omega), go (0 + 10 + 6 * f + 1) (by omega) (by omega) (by omega), go (0 + 10 + 6 * f + 2) (by omega) (by omega) (by omega), go (0 + 10 + 6 * f + 3) (by omega) (by omega) (by omega), go (0 + 10 + 6 * f + 4) (by omega) (by omega) (by omega), go (0 + 10 + 6 * f + 5) (by omega) (by omega) (by omega), q13]
    exact r3 f hf
  · rw [go (0 + 58 + i) (by omega) (by omega) (by omega)]; exact r4 i hi
  · rw [qw d (by omega), qh d (by omega)]
    by_cases c : d = cD b
    · subst c
      have w0 := hB.2.2.2.1 (cD b) (Nat.le_refl _)
      have h0 : hailB b (cD b) = false := by
        cases q : hailB b (cD b) with
        | false => rfl
        | true => rw [hB.2.2.2.2.1 _ q] at w0; cases w0
      rw [show 0 + 122 + cD b = 122 + cD b by omega, gw, w0, h0]
      have hs : w = 0 ∨ w = 1 ∨ w = 2 := by omega
      rcases hs with rfl | rfl | rfl <;> simp <;> rfl
    · rw [go (0 + 122 + d) (by omega) (by omega) (by omega), decide_eq_false (fun z => c z.1), decide_eq_false (fun z => c z.1), Bool.or_false, Bool.or_false]
      exact r5 d (by omega)
  · have et : tw b' f d = tw b f d := by unfold tw; rw [qb]
    rw [et]
    by_cases c : d = cD b
    · subst c
      rw [show 0 + 182 + 60 * f + cD b = 182 + 60 * f + cD b by omega, gt f (by omega), (hB.2.2.1 f hf).2.2.2.2.2 _ (Nat.le_refl _)]; rfl
    · rw [go (0 + 182 + 60 * f + d) (by omega) (by omega) (by omega)]
      exact r6 f d hf (by omega)
theorem dawns_eq {b M : Rc} {n : Nat} (hR : RB b M 0 n) (hD : cD b < 60) {w : Nat} (hw : w ≤ 2) : ∃ g, fX11_dawns (nI w) M = some ((1 : Int32), sa M 0 g) ∧ RB (fX0_addDay (nI w) b) (sa M 0 g) 0 n ∧ (∀ k, (k = 3 ∨ 670 ≤ k) → g k = ga M 0 k) ∧ g 1 = nI (cD b + 1) := by
  have em := many_eq hR
  have c11 : (1 : Int32).toNatClampNeg = 1 := rfl
  rw [c11] at em
  unfold fX11_dawns lt_
  rw [c11, em, if_neg (show ¬ nI (cD b) = 60 from fun z => by have := (nI_eq (a := cD b) (b := 60) (by omega) (by decide)).mp z; omega), n122, gd_pos (inbn (by omega) (by decide)), nI_clamp (by omega)]
  dsimp only
  obtain ⟨r, l1, g, rfl, g1, g2, g3, g4⟩ := loop_one (b := fX11_dawns_L30) (fun i s => ∃ g, s = (nI i, sa M 0 g) ∧ g 1 = nI (cD b) ∧ g (122 + cD b) = nI w ∧ (∀ f, f < i → g (182 + 60 * f + cD b) = 0) ∧ (∀ j, ¬ j = 122 + cD b → (j < 182 ∨ 662 ≤ j ∨ ¬ (j - 182) % 60 = cD b) → g j = ga M 0 j)) (fun r => ∃ g, r = sa M 0 g ∧ g 1 = nI (cD b) ∧ g (122 + cD b) = nI w ∧ (∀ f, f < 8 → g (182 + 60 * f + cD b) = 0) ∧ (∀ j, ¬ j = 122 + cD b → (j < 182 ∨ 662 ≤ j ∨ ¬ (j - 182) % 60 = cD b) → g j = ga M 0 j)) 8 (fun i s hi h => by
      obtain ⟨g, rfl, g1, g2, g3, g4⟩ := h
      left
      unfold fX11_dawns_L30 lt_
      dsimp only
      rw [if_neg (show ¬ (8 : Int32) ≤ nI i from nI_ge (a := i) (b := 8) hi (by decide)), c11, ga_sa0, g1, tRow, gd_pos (inbn (by omega) (by decide)), nI_clamp (by omega), nI_1, sa_sa]
      refine ⟨_, rfl, _, rfl, ?_, ?_, fun f hf => ?_, fun j h1 h2 => ?_⟩
      · rw [upd_ne _ _ (by omega)]; exact g1
      · rw [upd_ne _ _ (by omega)]; exact g2
      · by_cases c : f = i
        · subst c; exact upd_eq _ _ _
        · rw [upd_ne _ _ (by omega)]; exact g3 f (by omega)
      · rw [upd_ne _ _ (by omega)]; exact g4 j h1 h2) (fun s h => by
      obtain ⟨g, rfl, g1, g2, g3, g4⟩ := h
      unfold fX11_dawns_L30
      dsimp only
      rw [if_pos (show (8 : Int32) ≤ nI 8 by decide)]
      exact ⟨_, rfl, g, rfl, g1, g2, g3, g4⟩) 8 0 ((0 : Int32), sa M 0 (upd (ga M 0) (122 + cD b) (nI w))) (by omega) ⟨_, rfl, by rw [upd_ne _ _ (by omega)]; exact em, upd_eq _ _ _, fun f hf => absurd hf (Nat.not_lt_zero f), fun j h1 _ => upd_ne _ _ h1⟩
  rw [l1]
  dsimp only [Option.bind]
  rw [ga_sa0, g1, nI_1, sa_sa]
  refine ⟨_, rfl, ?_, fun k hk => ?_, upd_eq _ _ _⟩
  · refine AD_RB hw (addDay_eq hR.1 hD hw) hR hD (upd_eq g 1 (nI (cD b + 1))) ?_ (fun f hf => ?_) (fun j h1 h2 h3 => ?_) rfl
    · show upd g 1 _ (122 + cD b) = _
      rw [upd_ne _ _ (by omega)]; exact g2
    · show upd g 1 _ (182 + 60 * f + cD b) = _
      rw [upd_ne _ _ (by omega)]; exact g3 f hf
    · show upd g 1 _ j = _
      rw [upd_ne _ _ h1]; exact g4 j h2 h3
  · rw [upd_ne _ _ (by omega)]; exact g4 k (by omega) (by omega)
theorem b_day : BT_day Rel := by
  intro sg M hR p1
  apply qb_pure hR
  obtain ⟨hb, h25, h26⟩ := rel_b hR
  generalize sg 1 = b at *
  generalize sg 0 = kb at *
  have hD : cD b ≤ 60 := hb.1.2.1.2
  unfold fX10_day fX11_day
  rcases rng_cases p1 0 2 (lo' := 0) (hi' := 2) rfl rfl with ⟨r1, r2, e3, e4⟩ | ⟨-, e3, e4⟩
  · simp only [e3, e4, i00, i10, if_true]
    rw [show (0 : Int32).toInt = 0 from rfl] at r1
    rw [show (2 : Int32).toInt = 2 from rfl] at r2
    obtain ⟨w, hw, rfl⟩ : ∃ w : Nat, w ≤ 2 ∧ p1 = nI w := ⟨p1.toInt.toNat, by omega, i_nat (by omega)⟩
    rcases Nat.lt_or_ge (cD b) 60 with q | q
    · obtain ⟨g, d1, d2, d3, d4⟩ := dawns_eq hb q hw
      have ca : fX0_canAddDay b = 1 := by
        unfold fX0_canAddDay
        rw [hb.1.2.1.1, if_neg (show ¬ (60 : Int32) ≤ nI (cD b) from nI_ge (b := 60) q (by decide))]
      have ad := addDay_eq hb.1 q hw
      rw [ca, i10, d1]
      refine ⟨nI (cD b + 1), 0, fX0_addDay (nI w) b, sa M 0 g, ?_, ?_, d2, (AD_c ad q).1, d3, fx_sa _ _⟩
      · show some (gi (fX0_addDay (nI w) b) 9, _, _) = _
        rw [ad.2.1]
        rfl
      · show some (g 1, _) = _
        rw [d4]
        rfl
    · have e60 : cD b = 60 := by omega
      have ca : fX0_canAddDay b = 0 := by
        unfold fX0_canAddDay
        rw [hb.1.2.1.1, e60]; rfl
      have da : fX11_dawns (nI w) M = some ((0 : Int32), M) := by
        unfold fX11_dawns
        rw [many_eq hb, e60]; rfl
      rw [ca, i00, da]
      exact qb_ref hb 4
  · simp only [e3, e4, i00, i10, if_true]
    exact qb_ref hb 1
theorem half_w : ∀ m, m < 65 → 1 ≤ m → 1 ≤ (if (1 : Int32) < nI m / 2 then nI m / 2 else 1).toInt ∧ (if (1 : Int32) < nI m / 2 then nI m / 2 else 1).toInt ≤ 64 := by decide +kernel
theorem learn_eq {b M : Rc} {n : Nat} (hR : RB b M 0 n) (h25 : gi M 25 = -1) (h26 : gi M 26 = 0) {d : Nat} (hd : d < cD b) : ∃ h b' g, fX0_learnOf (nI d) b = some (h, b') ∧ fX11_learns (nI d) M = some (h, sa M 0 g) ∧ RB b' (sa M 0 g) 0 n ∧ cF b' = cF b ∧ cD b' = cD b ∧ (0 ≤ h.toInt) ∧ (∀ k, (k = 3 ∨ 670 ≤ k) → g k = ga M 0 k) := by
  have hF : cF b ≤ 8 := hR.1.1.2
  have hD : cD b ≤ 60 := hR.1.2.1.2
  obtain ⟨r, k, l1, l2, h, b', g, rfl, rfl, q1, q2, q3, q4, q5⟩ := loop_rel (b := fX0_learnOf_L4 (nI d)) (c := fX11_learns_L4 (nI d)) (fun i s t => ∃ (h : Nat) (b' : Rc) (g : Nat → Int32), s = (nI h, nI i, b') ∧ t = (nI h, nI i, sa M 0 g) ∧ h ≤ i ∧ RB b' (sa M 0 g) 0 n ∧ cF b' = cF b ∧ cD b' = cD b ∧ (∀ k, (k = 3 ∨ 670 ≤ k) → g k = ga M 0 k)) (fun r t => ∃ (h : Nat) (b' : Rc) (g : Nat → Int32), r = (nI h, b') ∧ t = (nI h, sa M 0 g) ∧ h ≤ 8 ∧ RB b' (sa M 0 g) 0 n ∧ cF b' = cF b ∧ cD b' = cD b ∧ (∀ k, (k = 3 ∨ 670 ≤ k) → g k = ga M 0 k)) (cF b) (fun i s t hi h => by
      obtain ⟨h, b', g, rfl, rfl, hh, rb, c1, c2, fr⟩ := h
      left
      have hi' : i < cF b' := by omega
      have hd' : d < cD b' := by omega
      have wl := (rb.1.2.2.1 i hi').2.2.2.2.1
      have w5 := (fr_eq rb hi').2.2.2.2.2
      unfold fX0_learnOf_L4 fX0_learnOf_J31 fX11_learns_L4 lt_
      dsimp only
      rw [rb.1.1.1, frms_eq rb, if_neg (nI_ge hi' (by omega)), if_neg (nI_ge hi' (by omega)), tb_bit (by omega), fw_eq rb.1 (by omega), hasWord_eq rb.1 hi' (by omega), believes_eq rb.1 hi' (by omega), tell_eq rb h25 h26 hi' (by omega), isRight_eq rb h25 h26 hi' hd', nI_1, fRowk i 5 5 rfl]
      simp only [gd_pos (inbn (k := i) (n := 8) (by omega) (by decide)), gd_pos (inbn (k := 10 + 6 * i + 5) (n := 6240) (by omega) (by decide)), nI_clamp (show i < 2 ^ 31 by omega), nI_clamp (show 10 + 6 * i + 5 < 2 ^ 31 by omega), w5, nI_1]
      simp only [sa_sa, ga_sa0]
      unfold wgt at wl
      obtain ⟨m, hm1, hm2, hm⟩ : ∃ m : Nat, 1 ≤ m ∧ m < 65 ∧ ga b' 5 i = nI m := ⟨(ga b' 5 i).toInt.toNat, by omega, by omega, i_nat (by omega)⟩
      have hv := half_w m hm2 hm1
      have rb2 := rb_weight rb hi' hv.1 hv.2
      rw [sa_sa, ga_sa0] at rb2
      simp only [hm]
      have stay : ∃ s' t', some (Sum.inl (nI h, nI (i + 1), b')) = some (Sum.inl (β := Int32 × Rc) s') ∧ some (Sum.inl (nI h, nI (i + 1), sa M 0 g)) = some (Sum.inl (β := Int32 × Rc) t') ∧ ∃ (h : Nat) (b' : Rc) (g : Nat → Int32), s' = (nI h, nI (i + 1), b') ∧ t' = (nI h, nI (i + 1), sa M 0 g) ∧ h ≤ i + 1 ∧ RB b' (sa M 0 g) 0 n ∧ cF b' = cF b ∧ cD b' = cD b ∧ (∀ k, (k = 3 ∨ 670 ≤ k) → g k = ga M 0 k) := ⟨_, _, rfl, rfl, h, b', g, rfl, rfl, by omega, rb, c1, c2, fr⟩
      have go : ∀ v, v = (if (1 : Int32) < nI m / 2 then nI m / 2 else 1) → ∃ s' t', some (Sum.inl (nI (h + 1), nI (i + 1), sa b' 5 (upd (ga b' 5) i v))) = some (Sum.inl (β := Int32 × Rc) s') ∧ some (Sum.inl (nI (h + 1), nI (i + 1), sa M 0 (upd g (10 + 6 * i + 5) v))) = some (Sum.inl (β := Int32 × Rc) t') ∧ ∃ (h : Nat) (b' : Rc) (g : Nat → Int32), s' = (nI h, nI (i + 1), b') ∧ t' = (nI h, nI (i + 1), sa M 0 g) ∧ h ≤ i + 1 ∧ RB b' (sa M 0 g) 0 n ∧ cF b' = cF b ∧ cD b' = cD b ∧ (∀ k, (k = 3 ∨ 670 ≤ k) → g k = ga M 0 k) := fun v hv => ⟨_, _, rfl, rfl, h + 1, _, _, rfl, rfl, by omega, by rw [hv]; exact rb2, c1, c2, fun k hk => by rw [upd_ne _ _ (by omega)]; exact fr k hk⟩
      unfold tv wd
      cases fe b' i d with
      | none =>
        cases fwB b' i d
        · exact stay
        · exact stay
      | some j =>
        cases fwB b' i d with
        | false =>
          show ∃ s' t', (if b1 (some (tw b' i j) == some true) = 0 then _ else _) = _ ∧ (if b1 (tw b' i j) = -1 then _ else if b1 (some (tw b' i j) == some false) = 0 then _ else _) = _ ∧ _
          cases tw b' i j with
          | false => exact stay
          | true => exact go _ rfl
        | true =>
          show ∃ s' t', (if b1 (some (tw b' i j) == some true) = 1 then _ else _) = _ ∧ (if b1 (tw b' i j) = -1 then _ else if b1 (some (tw b' i j) == some true) = 0 then _ else _) = _ ∧ _
          cases tw b' i j with
          | false => exact go _ rfl
          | true => exact stay) (fun s t h => by
      obtain ⟨h, b', g, rfl, rfl, hh, rb, c1, c2, fr⟩ := h
      unfold fX0_learnOf_L4 fX11_learns_L4
      dsimp only
      rw [rb.1.1.1, frms_eq rb, c1, if_pos (nI_le (Nat.le_refl _) (by omega)), if_pos (nI_le (Nat.le_refl _) (by omega))]
      exact ⟨_, _, rfl, rfl, h, b', g, rfl, rfl, by omega, rb, c1, c2, fr⟩) (cF b) 0 ((0 : Int32), (0 : Int32), b) ((0 : Int32), (0 : Int32), M) (by omega) ⟨0, b, ga M 0, rfl, by rw [sa_id]; rfl, by omega, by rw [sa_id]; exact hR, rfl, rfl, fun _ _ => rfl⟩
  refine ⟨nI h, b', g, ?_, ?_, q2, q3, q4, ?_, q5⟩
  · unfold fX0_learnOf
    rw [l1]; rfl
  · unfold fX11_learns
    rw [l2]; rfl
  · rw [nI_toInt (by omega)]; omega
theorem b_learn : BT_learn Rel := by
  intro sg M hR p1
  apply bt_b hR
  obtain ⟨hb, h25, h26⟩ := rel_b hR
  generalize sg 1 = b at *
  generalize sg 0 = kb at *
  unfold fX10_learn fX11_learn
  rcases day_cases hb kb p1 with ⟨d, hd, rfl, e1, e2⟩ | ⟨e1, e2⟩
  · obtain ⟨h, b', g, a1, a2, a3, a4, a5, -, a6⟩ := learn_eq hb h25 h26 hd
    simp only [e1, e2, i00, i10, if_true]
    rw [a1, a2]
    exact ⟨h, 0, b', sa M 0 g, rfl, rfl, a3, a4, a6, fx_sa _ _⟩
  · simp only [e1, e2, i00, i10, if_true]
    exact qb_ref hb 1
