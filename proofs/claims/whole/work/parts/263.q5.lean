/-! ===== (B) lags, rivals, moods, foes, fever ===== -/
def fitP (b : Rc) (f : Nat) (l : Int) (d : Nat) : Bool := decide (0 ≤ (d : Int) + l ∧ (d : Int) + l < cD b) && (tw b f d == fwB b f ((d : Int) + l).toNat)
theorem fitsBy_eq {b : Rc} (hB : BI b) {f : Nat} (hf : f < cF b) {l : Int32} (h1 : -3 ≤ l.toInt) (h2 : l.toInt ≤ 3) : fX0_fitsBy (nI f) l b = some (nI (ct (fitP b f l.toInt) (cD b))) := by
  have hF : cF b ≤ 8 := hB.1.2
  have hD : cD b ≤ 60 := hB.2.1.2
  have en : (-l).toInt = -l.toInt := i_neg (by omega)
  unfold fX0_fitsBy lt_
  dsimp only
  rw [gd_pos (inbn (by omega) (by decide)), nI_clamp (by omega)]
  congr 1
  refine bc_ct (by omega) (fun k hk => ?_)
  rw [tb_and, tb_and, tb_not hk, tb_xor, there_eq hB hk, tb_later (by omega) (by omega) hk, tb_later (by omega) (by omega) hk, en, fw_eq hB (by omega)]
  show ((dayB b k && _) && !(tw b f k ^^ _)) = (dayB b k && fitP b f l.toInt k)
  unfold fitP
  have e : ((k : Int) - -l.toInt).toNat = ((k : Int) + l.toInt).toNat := by omega
  rw [e]
  cases dayB b k with
  | false => rfl
  | true =>
    rw [Bool.true_and, Bool.true_and]
    by_cases c1 : -l.toInt ≤ (k : Int)
    · rw [decide_eq_true c1, Bool.true_and, Bool.true_and]
      have c3 : tb (fX0_daysThere b) ((k : Int) + l.toInt).toNat = decide (((k : Int) + l.toInt).toNat < cD b) := by
        by_cases q : ((k : Int) + l.toInt).toNat < 64
        · exact there_eq hB q
        · rw [tb_ge (by omega), decide_eq_false (by omega)]
      rw [c3, show decide (0 ≤ (k : Int) + l.toInt ∧ (k : Int) + l.toInt < cD b) = decide (((k : Int) + l.toInt).toNat < cD b) from decide_eq_decide.mpr (by omega)]
      cases decide (((k : Int) + l.toInt).toNat < cD b) <;> cases tw b f k <;> cases fwB b f ((k : Int) + l.toInt).toNat <;> rfl
    · rw [decide_eq_false c1, decide_eq_false (by omega)]; rfl
theorem fitsOf_eq {b M : Rc} {n : Nat} (hb : RB b M 0 n) {f : Nat} (hf : f < cF b) {l : Int32} (h1 : -3 ≤ l.toInt) (h2 : l.toInt ≤ 3) : fX11_fitsOf (nI f) l M = some (nI (ct (fitP b f l.toInt) (cD b))) := by
  have hD : cD b ≤ 60 := hb.1.2.1.2
  unfold fX11_fitsOf
  rw [cnt_loop (fitP b f l.toInt) (cD b) (fun d x hd => ?_) (fun x => ?_)]
  · rfl
  · have e : (nI d + l).toInt = (d : Int) + l.toInt := by
      have : (nI d).toInt = (d : Int) := nI_toInt (by omega)
      rw [i_add (by omega) (by omega), this]
    unfold fX11_fitsOf_L5
    dsimp only
    rw [many_eq hb, if_neg (n_ge hd hD), day_is hb, e, nI_1]
    unfold fitP
    by_cases c : 0 ≤ (d : Int) + l.toInt ∧ (d : Int) + l.toInt < cD b
    · have ex : nI d + l = nI ((d : Int) + l.toInt).toNat := by
        apply i_ext
        rw [e, nI_toInt (by omega)]
        omega
      rw [decide_eq_true c, if_neg (by decide), ex, felt_eq hb hf hd, comesFor_eq hb hf (by omega)]
      cases tw b f d <;> cases fwB b f ((d : Int) + l.toInt).toNat <;> rfl
    · rw [decide_eq_false c, if_pos (show b1 false = 0 from rfl)]; rfl
  · unfold fX11_fitsOf_L5
    dsimp only
    rw [many_eq hb, if_pos (ple (by omega))]
theorem b_fits : BT_fits Rel := by
  intro sg M hR p1 p2
  apply bt_q hR
  obtain ⟨hb, h25, h26⟩ := rel_b hR
  generalize sg 1 = b at *
  generalize sg 0 = kb at *
  have hD : cD b ≤ 60 := hb.1.2.1.2
  have hF : cF b ≤ 8 := hb.1.1.2
  unfold fX10_fits fX11_fits
  rcases farmer_cases hb kb p1 with ⟨f, hf, rfl, e1, e2⟩ | ⟨e1, e2⟩
  · simp only [e1, e2, i00, i10, if_true]
    rcases rng_cases p2 (-3) 3 (lo' := -3) (hi' := 3) rfl rfl with ⟨r1, r2, e3, e4⟩ | ⟨-, e3, e4⟩
    · simp only [e3, e4, i00, i10, if_true]
      rw [fitsBy_eq hb.1 hf r1 r2, fitsOf_eq hb hf r1 r2]
      exact qq_ans _
    · simp only [e3, e4, i00, i10, if_true]
      exact qq_ref 1
  · simp only [e1, e2, i00, i10, if_true]
    exact qq_ref 1
theorem b_lag : BT_lag Rel := by
  intro sg M hR p1
  apply bt_q hR
  obtain ⟨hb, h25, h26⟩ := rel_b hR
  generalize sg 1 = b at *
  generalize sg 0 = kb at *
  have hD : cD b ≤ 60 := hb.1.2.1.2
  have hF : cF b ≤ 8 := hb.1.1.2
  unfold fX10_lag fX11_lag
  rcases farmer_cases hb kb p1 with ⟨f, hf, rfl, e1, e2⟩ | ⟨e1, e2⟩
  · simp only [e1, e2, i00, i10, if_true]
    obtain ⟨r, l1, l2, -⟩ := loop_two (b := fX10_lag_L18 (nI f) b) (c := fX11_lag_L18 (nI f) M) (fun _ x => -3 ≤ x.toInt ∧ x.toInt ≤ 3) (fun _ => True) (a := 1) (N := 4) (fun k x hk1 hk hx => by
        have ek : (nI k).toInt = (k : Int) := nI_toInt (by omega)
        have en : (-(nI k)).toInt = -(k : Int) := by rw [i_neg (by omega), ek]
        have k3 : ¬ (3 : Int32) < nI k := by rw [i_lt, ek]; show ¬ (3 : Int) < _; omega
        have fa := fun {y : Int32} (q1 : -3 ≤ y.toInt) (q2 : y.toInt ≤ 3) => fitsBy_eq hb.1 hf q1 q2
        have fb := fun {y : Int32} (q1 : -3 ≤ y.toInt) (q2 : y.toInt ≤ 3) => fitsOf_eq hb hf q1 q2
        have step : ∀ y : Int32, (-3 ≤ y.toInt ∧ y.toInt ≤ 3) → ∃ z, fX10_lag_J48 (nI f) b (x, nI k) y = some (.inl (z, nI (k + 1))) ∧ fX11_lag_J42 (nI f) M (x, nI k) y = some (.inl (z, nI (k + 1))) ∧ -3 ≤ z.toInt ∧ z.toInt ≤ 3 := by
          intro y hy
          unfold fX10_lag_J48 fX11_lag_J42
          dsimp only
          rw [fa (y := nI k) (by omega) (by omega), fb (y := nI k) (by omega) (by omega), fa hy.1 hy.2, fb hy.1 hy.2, nI_1]
          dsimp only [Option.bind]
          split
          · exact ⟨_, rfl, rfl, hy⟩
          · exact ⟨_, rfl, rfl, by omega, by omega⟩
        unfold fX10_lag_L18 fX11_lag_L18 lt_
        dsimp only
        rw [if_neg k3, if_neg k3, fa (y := -(nI k)) (by omega) (by omega), fb (y := -(nI k)) (by omega) (by omega), fa hx.1 hx.2, fb hx.1 hx.2]
        dsimp only [Option.bind]
        split
        · exact step x hx
        · exact step _ ⟨by omega, by omega⟩) (fun x _ => by
        unfold fX10_lag_L18 fX11_lag_L18
        dsimp only
        rw [if_pos (by decide), if_pos (by decide)]
        exact ⟨_, rfl, rfl, trivial⟩) 0 (by omega) ⟨by decide, by decide⟩
    rw [show ((0 : Int32), (1 : Int32)) = ((0 : Int32), nI 1) from rfl, l1, l2]
    exact qq_ans _
  · simp only [e1, e2, i00, i10, if_true]
    exact qq_ref 1
theorem b_rival : BT_rival Rel := by
  intro sg M hR p1
  apply bt_q hR
  obtain ⟨hb, h25, h26⟩ := rel_b hR
  generalize sg 1 = b at *
  generalize sg 0 = kb at *
  have hD : cD b ≤ 60 := hb.1.2.1.2
  have hF : cF b ≤ 8 := hb.1.1.2
  unfold fX10_rival fX11_rival
  rcases farmer_cases hb kb p1 with ⟨f, hf, rfl, e1, e2⟩ | ⟨e1, e2⟩
  · simp only [e1, e2, i00, i10, if_true]
    obtain ⟨r, l1, l2, -⟩ := loop_two (b := fX10_rival_L18 (nI f) b) (c := fX11_rival_L18 (nI f) M) (fun _ x => x = -1 ∨ ∃ g, g < cF b ∧ x = nI g) (fun _ => True) (a := 0) (N := cF b) (fun k x _ hk hx => by
        unfold fX10_rival_L18 fX11_rival_L18
        dsimp only
        rw [hb.1.1.1, frms_eq hb, if_neg (nI_ge hk (by omega)), if_neg (nI_ge hk (by omega)), nI_1]
        by_cases c1 : nI k = nI f
        · rw [if_pos c1, if_pos c1]; exact ⟨_, rfl, rfl, hx⟩
        · rw [if_neg c1, if_neg c1]
          by_cases c2 : x = -1
          · rw [if_pos c2, if_pos c2]; exact ⟨_, rfl, rfl, Or.inr ⟨k, hk, rfl⟩⟩
          · rw [if_neg c2, if_neg c2]
            rcases hx with hx | ⟨g, hg, rfl⟩
            · exact absurd hx c2
            · rw [shared_eq hb.1 hf hk, shared_eq hb.1 hf hg, alikeOf_eq hb hf hk, alikeOf_eq hb hf hg]
              dsimp only [Option.bind]
              split
              · exact ⟨_, rfl, rfl, Or.inr ⟨g, hg, rfl⟩⟩
              · exact ⟨_, rfl, rfl, Or.inr ⟨k, hk, rfl⟩⟩) (fun x _ => by
        unfold fX10_rival_L18 fX11_rival_L18
        dsimp only
        rw [hb.1.1.1, frms_eq hb, if_pos (nI_le (Nat.le_refl _) (by omega)), if_pos (nI_le (Nat.le_refl _) (by omega))]
        exact ⟨_, rfl, rfl, trivial⟩) (-1) (by omega) (Or.inl rfl)
    rw [show ((-1 : Int32), (0 : Int32)) = ((-1 : Int32), nI 0) from rfl, l1, l2]
    exact qq_any _
  · simp only [e1, e2, i00, i10, if_true]
    exact qq_ref 1
theorem b_mood : BT_mood Rel := by
  intro sg M hR p1
  apply bt_q hR
  obtain ⟨hb, h25, h26⟩ := rel_b hR
  generalize sg 1 = b at *
  generalize sg 0 = kb at *
  have hD : cD b ≤ 60 := hb.1.2.1.2
  have hF : cF b ≤ 8 := hb.1.1.2
  unfold fX10_mood fX11_mood
  rcases farmer_cases hb kb p1 with ⟨f, hf, rfl, e1, e2⟩ | ⟨e1, e2⟩
  · simp only [e1, e2, i00, i10, if_true]
    obtain ⟨r, l1, l2, -⟩ := loop_two (b := fX10_mood_L18 (nI f) b) (c := fX11_mood_L18 (nI f) M) (fun _ _ => True) (fun _ => True) (a := 0) (N := cF b) (fun k x _ hk _ => by
        unfold fX10_mood_L18 fX11_mood_L18
        dsimp only
        rw [hb.1.1.1, frms_eq hb, if_neg (nI_ge hk (by omega)), if_neg (nI_ge hk (by omega)), nI_1, dislike_eq (by omega) (by omega), dlr.2, gd_pos (inbn (by omega) (by decide)), nI_clamp (by omega), dl_eq hb (by omega)]
        exact ⟨_, rfl, rfl, trivial⟩) (fun x _ => by
        unfold fX10_mood_L18 fX11_mood_L18
        dsimp only
        rw [hb.1.1.1, frms_eq hb, if_pos (nI_le (Nat.le_refl _) (by omega)), if_pos (nI_le (Nat.le_refl _) (by omega))]
        exact ⟨_, rfl, rfl, trivial⟩) 0 (by omega) trivial
    rw [show ((0 : Int32), (0 : Int32)) = ((0 : Int32), nI 0) from rfl, l1, l2]
    exact qq_ans _
  · simp only [e1, e2, i00, i10, if_true]
    exact qq_ref 1
theorem b_foe : BT_foe Rel := by
  intro sg M hR p1
  apply bt_q hR
  obtain ⟨hb, h25, h26⟩ := rel_b hR
  generalize sg 1 = b at *
  generalize sg 0 = kb at *
  have hD : cD b ≤ 60 := hb.1.2.1.2
  have hF : cF b ≤ 8 := hb.1.1.2
  unfold fX10_foe fX11_foe
  rcases farmer_cases hb kb p1 with ⟨f, hf, rfl, e1, e2⟩ | ⟨e1, e2⟩
  · simp only [e1, e2, i00, i10, if_true]
    have hz : ga b 7 (8 * f + f) = 0 := by have := hb.1.2.2.2.2.2.2.2.1 f (by omega); rw [show 8 * f + f = 9 * f by omega]; exact this
    obtain ⟨r, k, l1, l2, hr⟩ := loop_rel (b := fX10_foe_L18 (nI f) b) (c := fX11_foe_L21 (nI f) M) (fun i s t => s.2 = nI i ∧ t.2.2 = nI i ∧ ((s.1 = nI f ∧ t.1 = -1 ∧ t.2.1 = 0) ∨ ∃ g, g < cF b ∧ ¬ g = f ∧ s.1 = nI g ∧ t.1 = nI g ∧ t.2.1 = ga b 7 (8 * f + g) ∧ 0 ≤ t.2.1.toInt)) (fun r k => (r = nI f ∧ k = -1) ∨ ∃ g, g < cF b ∧ ¬ g = f ∧ r = nI g ∧ k = nI g) (cF b) (fun i s t hi h => by
        obtain ⟨w, j⟩ := s
        obtain ⟨be, mo, j2⟩ := t
        obtain ⟨h1, h2, h3⟩ := h
        dsimp only at h1 h2 h3
        subst h1 h2
        left
        unfold fX10_foe_L18 fX11_foe_L21 lt_
        dsimp only
        rw [hb.1.1.1, frms_eq hb, if_neg (nI_ge hi (by omega)), if_neg (nI_ge hi (by omega)), nI_1, dislike_eq (by omega) (by omega), dlr.2, gd_pos (inbn (by omega) (by decide)), nI_clamp (by omega), dl_eq hb (by omega)]
        dsimp only [Option.bind]
        rcases h3 with ⟨rfl, rfl, rfl⟩ | ⟨g, hg, ng, rfl, rfl, rfl, hp⟩
        · rw [dislike_eq (by omega) (by omega), hz]
          dsimp only
          by_cases c : (0 : Int32) < ga b 7 (8 * f + i)
          · have nf : ¬ i = f := fun z => by subst z; rw [hz] at c; exact absurd c (by decide)
            have c' := i_lt.mp c
            rw [i_0] at c'
            rw [if_pos c, if_neg (by rw [i_le, i_0]; omega)]
            exact ⟨_, _, rfl, rfl, rfl, rfl, Or.inr ⟨i, hi, nf, rfl, rfl, rfl, by dsimp only; omega⟩⟩
          · have c' : ¬ (0 : Int32).toInt < (ga b 7 (8 * f + i)).toInt := fun z => c (i_lt.mpr z)
            rw [i_0] at c'
            rw [if_neg c, if_pos (by rw [i_le, i_0]; omega)]
            exact ⟨_, _, rfl, rfl, rfl, rfl, Or.inl ⟨rfl, rfl, rfl⟩⟩
        · rw [dislike_eq (by omega) (by omega)]
          dsimp only
          by_cases c : ga b 7 (8 * f + g) < ga b 7 (8 * f + i)
          · have c' := i_lt.mp c
            have nf : ¬ i = f := fun z => by subst z; rw [hz, i_0] at c'; omega
            rw [if_pos c, if_neg (by rw [i_le]; omega)]
            exact ⟨_, _, rfl, rfl, rfl, rfl, Or.inr ⟨i, hi, nf, rfl, rfl, rfl, by dsimp only; omega⟩⟩
          · have c' : ¬ (ga b 7 (8 * f + g)).toInt < (ga b 7 (8 * f + i)).toInt := fun z => c (i_lt.mpr z)
            rw [if_neg c, if_pos (by rw [i_le]; omega)]
            exact ⟨_, _, rfl, rfl, rfl, rfl, Or.inr ⟨g, hg, ng, rfl, rfl, rfl, hp⟩⟩) (fun s t h => by
        obtain ⟨w, j⟩ := s
        obtain ⟨be, mo, j2⟩ := t
        obtain ⟨h1, h2, h3⟩ := h
        dsimp only at h1 h2 h3
        subst h1 h2
        unfold fX10_foe_L18 fX11_foe_L21
        dsimp only
        rw [hb.1.1.1, frms_eq hb, if_pos (nI_le (Nat.le_refl _) (by omega)), if_pos (nI_le (Nat.le_refl _) (by omega))]
        refine ⟨_, _, rfl, rfl, ?_⟩
        rcases h3 with ⟨q1, q2, -⟩ | ⟨g, hg, ng, q1, q2, -, -⟩
        · exact Or.inl ⟨q1, q2⟩
        · exact Or.inr ⟨g, hg, ng, q1, q2⟩) (cF b) 0 (nI f, (0 : Int32)) ((-1 : Int32), (0 : Int32), (0 : Int32)) (by omega) ⟨rfl, rfl, Or.inl ⟨rfl, rfl, rfl⟩⟩
    rw [l1, l2]
    dsimp only [Option.bind]
    rcases hr with ⟨rfl, rfl⟩ | ⟨g, hg, ng, rfl, rfl⟩
    · rw [if_pos rfl]
      exact ⟨-1, 6, rfl, rfl⟩
    · rw [if_neg (fun z => ng ((nI_eq (by omega) (by omega)).mp z))]
      show QQ _ (some (fX11_orNone (nI g) M)) kb M
      rw [orNone_eq, if_neg (nI_m1 (by omega))]
      exact ⟨_, 0, rfl, rfl⟩
  · simp only [e1, e2, i00, i10, if_true]
    exact qq_ref 1
theorem twOn_eq {b : Rc} (hB : BI b) {d : Nat} (hd : d < 64) : fX0_twingesOn (nI d) b = some (nI (ct (fun f => tw b f d) (cF b))) := by
  have hF : cF b ≤ 8 := hB.1.2
  unfold fX0_twingesOn
  rw [cnt_loop (fun f => tw b f d) (cF b) (fun f x hf => ?_) (fun x => ?_)]
  · rfl
  · unfold fX0_twingesOn_L4
    dsimp only
    rw [hB.1.1, if_neg (nI_ge hf (by omega)), feltOn_eq (by omega) hd, nI_1]; rfl
  · unfold fX0_twingesOn_L4
    dsimp only
    rw [hB.1.1, if_pos (nI_le (Nat.le_refl _) (by omega))]
theorem fev_in {b M : Rc} {n : Nat} (hb : RB b M 0 n) {d : Nat} (hd : d < cD b) (x y : Int32) : loopF (fX11_fever_L22 M (x, y, nI d)) ((0 : Int32), (0 : Int32)) = some (nI (ct (fun f => tw b f d) (cF b))) := by
  have hF : cF b ≤ 8 := hb.1.1.2
  have hD : cD b ≤ 60 := hb.1.2.1.2
  refine cnt_loop (fun f => tw b f d) (cF b) (fun f x hf => ?_) (fun x => ?_)
  · unfold fX11_fever_L22
    dsimp only
    rw [frms_eq hb, if_neg (nI_ge hf (by omega)), tRow, gd_pos (inbn (by omega) (by decide)), nI_clamp (by omega), twg_eq hb hf hd, nI_1]; rfl
  · unfold fX11_fever_L22
    dsimp only
    rw [frms_eq hb, if_pos (nI_le (Nat.le_refl _) (by omega))]
theorem b_fever : BT_fever Rel := by
  intro sg M hR
  apply bt_q hR
  obtain ⟨hb, h25, h26⟩ := rel_b hR
  generalize sg 1 = b at *
  generalize sg 0 = kb at *
  have hD : cD b ≤ 60 := hb.1.2.1.2
  have hF : cF b ≤ 8 := hb.1.1.2
  unfold fX10_fever fX11_fever
  obtain ⟨r, k, l1, l2, hr⟩ := loop_rel (b := fX10_fever_L4 b) (c := fX11_fever_L6 M) (fun i s t => s.2 = nI i ∧ t.2.2 = nI i ∧ s.1 = t.1 ∧ ((s.1 = -1 ∧ t.2.1 = -1) ∨ ∃ g, g < cD b ∧ s.1 = nI g ∧ t.2.1 = nI (ct (fun f => tw b f g) (cF b)))) (fun r k => r = k) (cD b) (fun i s t hi h => by
      obtain ⟨w, j⟩ := s
      obtain ⟨be, mo, j2⟩ := t
      obtain ⟨h1, h2, h4, h3⟩ := h
      dsimp only at h1 h2 h3 h4
      subst h1 h2 h4
      left
      have ci := ct_le (fun f => tw b f i) (cF b)
      unfold fX10_fever_L4 fX11_fever_L6
      dsimp only
      rw [hb.1.2.1.1, many_eq hb, if_neg (n_ge hi hD), if_neg (n_ge hi hD), nI_1, fev_in hb hi, twOn_eq hb.1 (by omega)]
      dsimp only [Option.bind]
      rcases h3 with ⟨rfl, rfl⟩ | ⟨g, hg, rfl, rfl⟩
      · rw [if_pos rfl, if_pos (by rw [i_lt, nI_toInt (by omega)]; show (-1 : Int) < _; omega)]
        exact ⟨_, _, rfl, rfl, rfl, rfl, rfl, Or.inr ⟨i, hi, rfl, rfl⟩⟩
      · have cg := ct_le (fun f => tw b f g) (cF b)
        rw [if_neg (nI_m1 (by omega)), twOn_eq hb.1 (by omega)]
        dsimp only
        by_cases c : ct (fun f => tw b f g) (cF b) < ct (fun f => tw b f i) (cF b)
        · rw [if_neg (nI_ge c (by omega)), if_pos (n_lt c (by omega))]
          exact ⟨_, _, rfl, rfl, rfl, rfl, rfl, Or.inr ⟨i, hi, rfl, rfl⟩⟩
        · rw [if_pos (nI_le (by omega) (by omega)), if_neg (n_nlt (by omega) (by omega))]
          exact ⟨_, _, rfl, rfl, rfl, rfl, rfl, Or.inr ⟨g, hg, rfl, rfl⟩⟩) (fun s t h => by
      obtain ⟨w, j⟩ := s
      obtain ⟨be, mo, j2⟩ := t
      obtain ⟨h1, h2, h4, h3⟩ := h
      dsimp only at h1 h2 h3 h4
      subst h1 h2 h4
      unfold fX10_fever_L4 fX11_fever_L6
      dsimp only
      rw [hb.1.2.1.1, many_eq hb, if_pos (ple (by omega)), if_pos (ple (by omega))]
      exact ⟨_, _, rfl, rfl, rfl⟩) (cD b) 0 ((-1 : Int32), (0 : Int32)) ((-1 : Int32), (-1 : Int32), (0 : Int32)) (by omega) ⟨rfl, rfl, rfl, Or.inl ⟨rfl, rfl⟩⟩
  subst hr
  rw [l1, l2]
  exact qq_any _
