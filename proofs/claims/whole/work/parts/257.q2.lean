/-! ===== (B) questions about one farmer, one day ===== -/
theorem many_eq {b M : Rc} {n : Nat} (hR : RB b M 0 n) : ga M 0 (1 : Int32).toNatClampNeg = nI (cD b) := by
  rw [c1, show ga M 0 1 = gi b 9 from hR.2.2.1, hR.1.2.1.1]
theorem frms_eq {b M : Rc} {n : Nat} (hR : RB b M 0 n) : ga M 0 (0 : Int32).toNatClampNeg = nI (cF b) := by
  rw [c0, hR.2.1, hR.1.1.1]
theorem law_eq {b M : Rc} {n : Nat} (hR : RB b M 0 n) : ga M 0 (2 : Int32).toNatClampNeg = gi b 12 := by
  rw [c2, show ga M 0 2 = gi b 12 from hR.2.2.2.1]
theorem sky_eq {b M : Rc} {n : Nat} (hR : RB b M 0 n) {d : Nat} (hd : d < cD b) : ga M 0 (122 + d) = b1 (wetB b d) + b1 (hailB b d) := by
  have h := hR.2.2.2.2.2.2.1 d hd
  rw [Nat.zero_add] at h
  exact h
theorem twg_eq {b M : Rc} {n : Nat} (hR : RB b M 0 n) {f d : Nat} (hf : f < cF b) (hd : d < cD b) : ga M 0 (182 + 60 * f + d) = b1 (tw b f d) := by
  have h := hR.2.2.2.2.2.2.2.1 f d hf hd
  rw [Nat.zero_add] at h
  exact h
theorem dl_eq {b M : Rc} {n : Nat} (hR : RB b M 0 n) {i : Nat} (hi : i < 64) : ga M 0 (58 + i) = ga b 7 i := by
  have h := hR.2.2.2.2.2.1 i hi
  rw [Nat.zero_add] at h
  exact h
theorem fr_eq {b M : Rc} {n : Nat} (hR : RB b M 0 n) {f : Nat} (hf : f < cF b) : ga M 0 (10 + 6 * f) = ga b 1 f ∧ ga M 0 (10 + 6 * f + 1) = ga b 2 f ∧ ga M 0 (10 + 6 * f + 2) = ga b 3 f ∧ ga M 0 (10 + 6 * f + 3) = b1 (elbB b f) ∧ ga M 0 (10 + 6 * f + 4) = (if ga b 4 f = 61 then 1000000 else ga b 4 f) ∧ ga M 0 (10 + 6 * f + 5) = ga b 5 f := by
  have h := hR.2.2.2.2.1 f hf
  simp only [Nat.zero_add] at h
  exact h
theorem n_ge {k n : Nat} (h : k < n) (hn : n ≤ 60) : ¬ nI n ≤ nI k := nI_ge h (by omega)
theorem b_told : BT_told Rel := by
  intro sg M hR p1
  apply qq_pure hR
  obtain ⟨hb, h25, h26⟩ := rel_b hR
  generalize sg 1 = b at *
  generalize sg 0 = kb at *
  have hD : cD b ≤ 60 := hb.1.2.1.2
  have hlt := @wet_lt b hb.1
  have hhl := hb.1.2.2.2.2.1
  have k1 : (gi b 8) = ga M 0 (0 : Int32).toNatClampNeg := by rw [frms_eq hb, hb.1.1.1]
  have k2 : (gi b 9) = ga M 0 (1 : Int32).toNatClampNeg := by rw [many_eq hb, hb.1.2.1.1]
  have k3 := law_eq hb
  have loop : ∀ p1 : Int32, loopF (fX11_told_L19 p1 M) ((0 : Int32), (0 : Int32)) = some (nI (ct (fun d => (decide (p1 = 2) && wetB b d) || (decide (p1 = 3) && hailB b d)) (cD b))) := by
    intro p1
    refine cnt_loop _ _ (fun d x hd => ?_) (fun x => ?_)
    · unfold fX11_told_L19 fX11_told_J43
      dsimp only
      rw [many_eq hb, if_neg (n_ge hd hD), isWet_eq hb hd, n122, gd_pos (inbn (by omega) (by decide)), nI_clamp (by omega), sky_eq hb hd, nI_1]
      by_cases q2 : p1 = 2
      · subst q2
        rw [if_pos rfl]
        cases wetB b d <;> cases hailB b d <;> rfl
      · rw [if_neg q2, decide_eq_false q2]
        by_cases q3 : p1 = 3
        · subst q3
          rw [if_pos rfl]
          cases hw : wetB b d with
          | true => cases hailB b d <;> rfl
          | false => cases hq : hailB b d with
            | true => rw [hhl d hq] at hw; cases hw
            | false => rfl
        · rw [if_neg q3, decide_eq_false q3]
          rfl
    · unfold fX11_told_L19
      dsimp only
      rw [many_eq hb, if_pos (ple (by omega))]
  have c2 : fJ13_bitCount_95d88 (gl b 10) = nI (ct (wetB b) (cD b)) := bc_ct (by omega) (fun k hk => by
    show wetB b k = _
    cases hw : wetB b k with
    | true => rw [decide_eq_true (hlt hw)]; rfl
    | false => rw [Bool.and_false])
  have c3 : fJ13_bitCount_95d88 (gl b 11) = nI (ct (hailB b) (cD b)) := bc_ct (by omega) (fun k hk => by
    show hailB b k = _
    cases hw : hailB b k with
    | true => rw [decide_eq_true (hlt (hhl k hw))]; rfl
    | false => rw [Bool.and_false])
  have t4 : (4 : Int32).toInt = 4 := rfl
  unfold fX10_told fX11_told
  rw [loop]
  by_cases n1 : p1 < 0
  · have m0 : ¬ p1 = 0 := fun z => by subst z; exact absurd n1 (by decide)
    have m1 : ¬ p1 = 1 := fun z => by subst z; exact absurd n1 (by decide)
    have m2 : ¬ p1 = 2 := fun z => by subst z; exact absurd n1 (by decide)
    have m3 : ¬ p1 = 3 := fun z => by subst z; exact absurd n1 (by decide)
    have m4 : ¬ p1 = 4 := fun z => by subst z; exact absurd n1 (by decide)
    rw [if_pos n1, if_neg m0, if_neg m1, if_neg m2, if_neg m3, if_neg m4]; exact qq_ref 1
  · rw [if_neg n1]
    by_cases n2 : p1 ≤ 4
    · rw [if_pos n2]
      dsimp only [Option.bind]
      have e : p1 = 0 ∨ p1 = 1 ∨ p1 = 2 ∨ p1 = 3 ∨ p1 = 4 := by
        rw [i_lt, i_0] at n1
        rw [i_le, t4] at n2
        by_cases q : p1.toInt = 4
        · exact Or.inr (Or.inr (Or.inr (Or.inr (i_ext q))))
        · rcases i_4 (x := p1) (by omega) (by omega) with z | z | z | z
          · exact Or.inl z
          · exact Or.inr (Or.inl z)
          · exact Or.inr (Or.inr (Or.inl z))
          · exact Or.inr (Or.inr (Or.inr (Or.inl z)))
      rcases e with e | e | e | e | e
      · subst e; rw [if_pos rfl, if_pos rfl, k1]; exact qq_ans _
      · subst e; rw [if_neg (by decide), if_pos rfl, if_neg (by decide), if_pos rfl, k2]; exact qq_ans _
      · subst e; rw [if_neg (by decide), if_neg (by decide), if_pos rfl, if_neg (by decide), if_neg (by decide), if_neg (by decide), c2]
        have : ct (fun d => (decide ((2 : Int32) = 2) && wetB b d) || (decide ((2 : Int32) = 3) && hailB b d)) (cD b) = ct (wetB b) (cD b) := ct_cong (fun k _ => by simp)
        rw [this]; exact qq_ans _
      · subst e; rw [if_neg (by decide), if_neg (by decide), if_neg (by decide), if_pos rfl, if_neg (by decide), if_neg (by decide), if_neg (by decide), c3]
        have : ct (fun d => (decide ((3 : Int32) = 2) && wetB b d) || (decide ((3 : Int32) = 3) && hailB b d)) (cD b) = ct (hailB b) (cD b) := ct_cong (fun k _ => by simp)
        rw [this]; exact qq_ans _
      · subst e; rw [if_neg (by decide), if_neg (by decide), if_neg (by decide), if_neg (by decide), if_pos rfl, if_neg (by decide), if_neg (by decide), if_pos rfl, k3]; exact qq_ans _
    · have m0 : ¬ p1 = 0 := fun z => by subst z; exact absurd (by decide) n2
      have m1 : ¬ p1 = 1 := fun z => by subst z; exact absurd (by decide) n2
      have m2 : ¬ p1 = 2 := fun z => by subst z; exact absurd (by decide) n2
      have m3 : ¬ p1 = 3 := fun z => by subst z; exact absurd (by decide) n2
      have m4 : ¬ p1 = 4 := fun z => by subst z; exact absurd (by decide) n2
      rw [if_neg n2, if_neg m0, if_neg m1, if_neg m2, if_neg m3, if_neg m4]; exact qq_ref 1
theorem tw_bc {b : Rc} (hB : BI b) {f : Nat} (hf : f < cF b) : fJ13_bitCount_95d88 (gb b 6 f) = nI (ct (tw b f) (cD b)) := bc_ct (by have := hB.2.1.2; omega) (fun k hk => by
    show tw b f k = _
    rcases Nat.lt_or_ge k (cD b) with q | q
    · rw [decide_eq_true q]; rfl
    · rw [(hB.2.2.1 f hf).2.2.2.2.2 k q]; simp)
theorem b_farmer : BT_farmer Rel := by
  intro sg M hR p1 p2
  apply bt_q hR
  obtain ⟨hb, h25, h26⟩ := rel_b hR
  generalize sg 1 = b at *
  generalize sg 0 = kb at *
  have hD : cD b ≤ 60 := hb.1.2.1.2
  have hF : cF b ≤ 8 := hb.1.1.2
  unfold fX10_farmer fX11_farmer
  rcases farmer_cases hb kb p1 with ⟨f, hf, rfl, e1, e2⟩ | ⟨e1, e2⟩
  · have loop : loopF (fX11_farmer_L95 (nI f) M) ((0 : Int32), (0 : Int32)) = some (nI (ct (tw b f) (cD b))) := by
      refine cnt_loop _ _ (fun d x hd => ?_) (fun x => ?_)
      · unfold fX11_farmer_L95
        dsimp only
        rw [many_eq hb, if_neg (n_ge hd hD), tRow, gd_pos (inbn (by omega) (by decide)), nI_clamp (by omega), twg_eq hb hf hd, nI_1]
        rfl
      · unfold fX11_farmer_L95
        dsimp only
        rw [many_eq hb, if_pos (ple (by omega))]
    obtain ⟨m0, m1, m2, m3, m4, m5⟩ := fr_eq hb hf
    obtain ⟨⟨l1, l2⟩, ⟨cu1, cu2⟩, -⟩ := hb.1.2.2.1 f hf
    have hin : inb (nI f) 8 = true := inbn (by omega) (by decide)
    simp only [e1, e2, i00, i10, if_true]
    rw [gd_pos hin, gd_pos hin, gd_pos hin, gd_pos hin, gd_pos hin, gd_pos hin, nI_clamp (by omega), elb_eq hb.1 (by omega), tw_bc hb.1 hf, loop, fRow]
    have t6 : (6 : Int32).toInt = 6 := rfl
    by_cases n1 : p2 < 0
    · have z0 : ¬ p2 = 0 := fun z => by subst z; exact absurd n1 (by decide)
      have z1 : ¬ p2 = 1 := fun z => by subst z; exact absurd n1 (by decide)
      have z2 : ¬ p2 = 2 := fun z => by subst z; exact absurd n1 (by decide)
      have z3 : ¬ p2 = 3 := fun z => by subst z; exact absurd n1 (by decide)
      have z4 : ¬ p2 = 4 := fun z => by subst z; exact absurd n1 (by decide)
      have z5 : ¬ p2 = 5 := fun z => by subst z; exact absurd n1 (by decide)
      have z6 : ¬ p2 = 6 := fun z => by subst z; exact absurd n1 (by decide)
      rw [if_pos n1, if_neg z0, if_neg z1, if_neg z2, if_neg z3, if_neg z4, if_neg z5, if_neg z6]; exact qq_ref 1
    · rw [if_neg n1]
      by_cases n2 : p2 ≤ 6
      · rw [if_pos n2]
        unfold lt_
        dsimp only [Option.bind]
        have e : ∃ k, k ≤ 6 ∧ p2 = nI k := by
          rw [i_lt, i_0] at n1
          rw [i_le, t6] at n2
          exact ⟨p2.toInt.toNat, by omega, i_nat (by omega)⟩
        obtain ⟨k, hk, rfl⟩ := e
        rw [show nI (10 + 6 * f) + (4 : Int32) = nI (10 + 6 * f + 4) from by rw [show (4 : Int32) = nI 4 from rfl, nI_add], nI_add, gd_pos (inbn (k := 10 + 6 * f + 4) (n := 6240) (by omega) (by decide)), gd_pos (inbn (k := 10 + 6 * f + k) (n := 6240) (by omega) (by decide)), nI_clamp (by omega), nI_clamp (by omega), m4]
        match k, hk with
        | 0, _ => exact ⟨_, 0, rfl, by rw [if_neg (by decide), if_neg (by decide), show ga M 0 (10 + 6 * f + 0) = ga b 1 f from m0]; rfl⟩
        | 1, _ => exact ⟨_, 0, rfl, by rw [if_neg (by decide), if_neg (by decide), m1]; rfl⟩
        | 2, _ => exact ⟨_, 0, rfl, by rw [if_neg (by decide), if_neg (by decide), m2]; rfl⟩
        | 3, _ => exact ⟨_, 0, rfl, by rw [if_neg (by decide), if_neg (by decide), m3]; cases elbB b f <;> rfl⟩
        | 4, _ =>
          rw [if_pos (show nI 4 = 4 from rfl)]
          show QQ (if ga b 4 f = 61 then _ else _) _ kb M
          by_cases q : ga b 4 f = 61
          · rw [if_pos q, if_pos q, if_pos rfl]; exact qq_ref 6
          · have q2 : ¬ ga b 4 f = 1000000 := fun z => by
              unfold curZ at cu2
              rw [z] at cu2
              exact absurd cu2 (by decide)
            rw [if_neg q, if_neg q, if_neg q2]; exact qq_ans _
        | 5, _ => exact ⟨_, 0, rfl, by rw [if_neg (by decide), if_neg (by decide), m5]; rfl⟩
        | 6, _ => exact ⟨_, 0, rfl, rfl⟩
      · have z0 : ¬ p2 = 0 := fun z => by subst z; exact absurd (by decide) n2
        have z1 : ¬ p2 = 1 := fun z => by subst z; exact absurd (by decide) n2
        have z2 : ¬ p2 = 2 := fun z => by subst z; exact absurd (by decide) n2
        have z3 : ¬ p2 = 3 := fun z => by subst z; exact absurd (by decide) n2
        have z4 : ¬ p2 = 4 := fun z => by subst z; exact absurd (by decide) n2
        have z5 : ¬ p2 = 5 := fun z => by subst z; exact absurd (by decide) n2
        have z6 : ¬ p2 = 6 := fun z => by subst z; exact absurd (by decide) n2
        rw [if_neg n2, if_neg z0, if_neg z1, if_neg z2, if_neg z3, if_neg z4, if_neg z5, if_neg z6]; exact qq_ref 1
  · simp only [e1, e2, i00, i10, if_true]
    exact qq_ref 1
theorem dlr {a c : Nat} : (nI a * (8 : Int32)) + nI c = nI (8 * a + c) ∧ ((58 : Int32) + ((8 : Int32) * nI a)) + nI c = nI (58 + (8 * a + c)) := by
  rw [show (8 : Int32) = nI 8 from rfl, show (58 : Int32) = nI 58 from rfl, nI_mul, nI_mul, nI_add, nI_add, nI_add, Nat.mul_comm, Nat.add_assoc]
  exact ⟨rfl, rfl⟩
theorem dislike_eq {b : Rc} {a c : Nat} (ha : a < 8) (hc : c < 8) : fX0_dislike (nI a) (nI c) b = some (ga b 7 (8 * a + c)) := by
  unfold fX0_dislike
  rw [dlr.1, gd_pos (inbn (by omega) (by decide)), nI_clamp (by omega)]
theorem b_dislikes : BT_dislikes Rel := by
  intro sg M hR p1 p2
  apply bt_q hR
  obtain ⟨hb, h25, h26⟩ := rel_b hR
  generalize sg 1 = b at *
  generalize sg 0 = kb at *
  have hF : cF b ≤ 8 := hb.1.1.2
  unfold fX10_dislikes fX11_dislikes
  rcases farmer_cases hb kb p1 with ⟨f, hf, rfl, e1, e2⟩ | ⟨e1, e2⟩
  · rcases farmer_cases hb kb p2 with ⟨g, hg, rfl, e3, e4⟩ | ⟨e3, e4⟩
    · simp only [e1, e2, e3, e4, i00, i10, if_true]
      rw [dislike_eq (by omega) (by omega), dlr.2, gd_pos (inbn (by omega) (by decide)), nI_clamp (by omega), dl_eq hb (by omega)]
      exact qq_ans _
    · simp only [e1, e2, e3, e4, i00, i10, if_true]
      exact qq_ref 1
  · simp only [e1, e2, i00, i10, if_true]
    exact qq_ref 1
theorem wetOn_eq {b : Rc} {d : Nat} (hd : d < 64) : fX0_wetOn (nI d) b = b1 (wetB b d) := by
  unfold fX0_wetOn
  rw [tb_bit32 hd]; rfl
theorem b_weather : BT_weather Rel := by
  intro sg M hR p1
  apply qq_pure hR
  obtain ⟨hb, h25, h26⟩ := rel_b hR
  generalize sg 1 = b at *
  generalize sg 0 = kb at *
  have hD : cD b ≤ 60 := hb.1.2.1.2
  unfold fX10_weather fX11_weather
  rcases day_cases hb kb p1 with ⟨d, hd, rfl, e1, e2⟩ | ⟨e1, e2⟩
  · simp only [e1, e2, i00, i10, if_true]
    rw [n122, gd_pos (inbn (by omega) (by decide)), nI_clamp (by omega), sky_eq hb hd, wetOn_eq (by omega), tb_bit32 (by omega)]
    exact qq_ans _
  · simp only [e1, e2, i00, i10, if_true]
    exact qq_ref 1
theorem isIn_eq {b M : Rc} {n : Nat} (hR : RB b M 0 n) (kb : Rc) (x y : Int32) : (∃ f d, f < cF b ∧ d < cD b ∧ x = nI f ∧ y = nI d ∧ fX10_noFarmer x kb b = 0 ∧ fX10_noDay y kb b = 0 ∧ fX11_isIn x y M = 1) ∨ (fX10_noFarmer x kb b = 0 ∧ fX10_noDay y kb b = 1 ∧ fX11_isIn x y M = 0) ∨ (fX10_noFarmer x kb b = 1 ∧ fX11_isIn x y M = 0) := by
  unfold fX11_isIn
  rcases farmer_cases hR kb x with ⟨f, hf, rfl, e1, e2⟩ | ⟨e1, e2⟩
  · rcases day_cases hR kb y with ⟨d, hd, rfl, e3, e4⟩ | ⟨e3, e4⟩
    · left
      simp only [e2, e4, i00, i10, if_true]
      exact ⟨f, d, hf, hd, rfl, rfl, e1, e3, trivial⟩
    · right; left
      simp only [e2, e4, i00, i10, if_true]
      exact ⟨e1, e3, trivial⟩
  · right; right
    simp only [e2, i00, i10, if_true]
    exact ⟨e1, trivial⟩
theorem b_should : BT_should Rel := by
  intro sg M hR p1 p2
  apply bt_q hR
  obtain ⟨hb, h25, h26⟩ := rel_b hR
  generalize sg 1 = b at *
  generalize sg 0 = kb at *
  have hD : cD b ≤ 60 := hb.1.2.1.2
  unfold fX10_should fX11_should
  rcases isIn_eq hb kb p1 p2 with ⟨f, d, hf, hd, rfl, rfl, e1, e2, e3⟩ | ⟨e1, e2, e3⟩ | ⟨e1, e3⟩
  · obtain ⟨x, x1, x2⟩ := due_eq hb.1 hf
    simp only [e1, e2, e3, i00, i10, if_true]
    rw [x1, shouldFeel_eq hb hf hd]
    dsimp only [Option.bind]
    rw [tb_bit32 (by omega), x2 d (by omega)]
    cases due b f d <;> exact qq_ans _
  · simp only [e1, e2, e3, i00, i10, if_true]
    exact qq_ref 1
  · simp only [e1, e3, i00, i10, if_true]
    exact qq_ref 1
theorem b_twinges : BT_twinges Rel := by
  intro sg M hR p1 p2
  apply bt_q hR
  obtain ⟨hb, h25, h26⟩ := rel_b hR
  generalize sg 1 = b at *
  generalize sg 0 = kb at *
  have hD : cD b ≤ 60 := hb.1.2.1.2
  have hF : cF b ≤ 8 := hb.1.1.2
  unfold fX10_twinges fX11_twinges
  rcases isIn_eq hb kb p1 p2 with ⟨f, d, hf, hd, rfl, rfl, e1, e2, e3⟩ | ⟨e1, e2, e3⟩ | ⟨e1, e3⟩
  · simp only [e1, e2, e3, i00, i10, if_true]
    rw [feltOn_eq (by omega) (by omega), tRow, gd_pos (inbn (by omega) (by decide)), nI_clamp (by omega), twg_eq hb hf hd]
    exact qq_ans _
  · simp only [e1, e2, e3, i00, i10, if_true]
    exact qq_ref 1
  · simp only [e1, e3, i00, i10, if_true]
    exact qq_ref 1
theorem b_tells : BT_tells Rel := by
  intro sg M hR p1 p2
  apply bt_q hR
  obtain ⟨hb, h25, h26⟩ := rel_b hR
  generalize sg 1 = b at *
  generalize sg 0 = kb at *
  unfold fX10_tells fX11_tells
  rcases farmer_cases hb kb p1 with ⟨f, hf, rfl, e1, e2⟩ | ⟨e1, e2⟩
  · rcases asked_cases p2 with ⟨d, hd, rfl, e3, e4⟩ | ⟨e3, e4⟩
    · simp only [e1, e2, e3, e4, i00, i10, if_true]
      rw [hasWord_eq hb.1 hf hd, believes_eq hb.1 hf hd, tell_eq hb h25 h26 hf hd]
      unfold tv wd
      cases fe b f d with
      | none => exact qq_ref 6
      | some k =>
        show QQ (some (fX10_answer (fX10_bit (b1 (some (tw b f k) == some true))) kb)) (some (fX11_orNone (b1 (tw b f k)) M)) kb M
        cases tw b f k
        · exact ⟨0, 0, rfl, rfl⟩
        · exact ⟨1, 0, rfl, rfl⟩
    · simp only [e1, e2, e3, e4, i00, i10, if_true]
      exact qq_ref 1
  · simp only [e1, e2, i00, i10, if_true]
    exact qq_ref 1
