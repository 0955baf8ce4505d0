/-! ===== (B) how often the bench is right ===== -/
theorem sa_sa (s : Rc) (k : Nat) (v w : Nat → Int32) : sa (sa s k v) k w = sa s k w := by
  unfold sa
  rw [va_up_up]
theorem sa_id (s : Rc) (k : Nat) : sa s k (ga s k) = s := by
  unfold sa ga
  rw [va_up_id _ _ rfl]
theorem si_si (s : Rc) (k : Nat) (v w : Int32) : si (si s k v) k w = si s k w := by
  unfold si
  rw [va_up_up]
theorem si_id (s : Rc) (k : Nat) {v : Int32} (h : gi s k = v) : si s k v = s := by
  unfold si
  rw [va_up_id s.1 k h]
theorem upd_upd (f : Nat → Int32) (k : Nat) (x y : Int32) : upd (upd f k x) k y = upd f k y := by
  funext j
  unfold upd
  split <;> rfl
theorem upd_id (f : Nat → Int32) (k : Nat) {x : Int32} (h : f k = x) : upd f k x = f := by
  funext j
  unfold upd
  split
  · rename_i e; rw [e, h]
  · rfl
theorem upd_ne (f : Nat → Int32) {k j : Nat} (x : Int32) (h : ¬ j = k) : upd f k x j = f j := if_neg h
theorem upd_eq (f : Nat → Int32) (k : Nat) (x : Int32) : upd f k x k = x := if_pos rfl
theorem mk_andnot {p : Nat → Bool} {n wo : Nat} (h : n ≤ 8) (hw : wo < 256) : mk p n &&& (255 ^^^ wo) = mk (fun f => p f && !wo.testBit f) n := by
  have h1 := mk_256 p h
  apply bits_eq
  · exact Nat.lt_of_le_of_lt Nat.and_le_left h1
  · exact mk_256 _ h
  · intro k hk
    rw [Nat.testBit_and, Nat.testBit_xor, mk_bit, mk_bit, show (255 : Nat) = 2 ^ 8 - 1 from rfl, Nat.testBit_two_pow_sub_one]
    by_cases hn : k < n
    · simp [hn, hk]
    · simp [hn]
def keptC (b : Rc) (law : Int32) (wo : Nat) : Nat := ct (fun d => decide (sayV law (wgt b) (fun f => te b d f && !wo.testBit f) (fun f => ra b d f && !wo.testBit f) (cF b) = b1 (wetB b d))) (cD b)
theorem keptUnder_eq {b : Rc} (hB : BI b) (law : Int32) {wo : Nat} (hw : wo < 256) : fX0_keptUnder law (nI wo) b = some (nI (keptC b law wo)) := by
  have hF : cF b ≤ 8 := hB.1.2
  have hD : cD b ≤ 60 := hB.2.1.2
  unfold fX0_keptUnder keptC
  rw [cnt_loop (fun d => decide (sayV law (wgt b) (fun f => te b d f && !wo.testBit f) (fun f => ra b d f && !wo.testBit f) (cF b) = b1 (wetB b d))) (cD b) (fun d x hd => ?_) (fun x => ?_)]
  · rfl
  · unfold fX0_keptUnder_L5
    dsimp only
    rw [hB.2.1.1, if_neg (n_ge hd hD), tellersOf_eq hB (by omega), believersOf_eq hB (by omega), nI_1, wetOn_eq (by omega)]
    dsimp only [Option.bind]
    rw [nx_not _ (mk_256 _ hF) _ hw, nx_not _ (mk_256 _ hF) _ hw, mk_andnot hF hw, mk_andnot hF hw, verdict_eq hB]
    dsimp only
    show (if sayV law (wgt b) (fun f => te b d f && !wo.testBit f) (fun f => ra b d f && !wo.testBit f) (cF b) = b1 (wetB b d) then _ else _) = _
    split
    · rename_i h; rw [decide_eq_true h]; rfl
    · rename_i h; rw [decide_eq_false h]; exact congrArg (fun z => some (Sum.inl (z, nI (d + 1)))) (Int32.add_zero x).symm
  · unfold fX0_keptUnder_L5
    dsimp only
    rw [hB.2.1.1, if_pos (ple (by omega))]
def keptM (b : Rc) (mu : Int32) : Nat := ct (fun d => decide (sayV (gi b 12) (wgt b) (teN b 0 mu d) (raN b 0 mu d) (cF b) = b1 (wetB b d))) (cD b)
theorem keptOf_eq {b M : Rc} {n : Nat} (hR : RB b M 0 n) (h26 : gi M 26 = 0) : fX11_keptOf M = some (nI (keptM b (gi M 25))) := by
  have hF : cF b ≤ 8 := hR.1.1.2
  have hD : cD b ≤ 60 := hR.1.2.1.2
  unfold fX11_keptOf keptM
  rw [cnt_loop (fun d => decide (sayV (gi b 12) (wgt b) (teN b 0 (gi M 25) d) (raN b 0 (gi M 25) d) (cF b) = b1 (wetB b d))) (cD b) (fun d x hd => ?_) (fun x => ?_)]
  · rfl
  · unfold fX11_keptOf_L4 fX11_keptOf_J33
    dsimp only
    rw [many_eq hR, if_neg (n_ge hd hD), sayOf_eq hR (t := 0) (by decide) h26 (by omega), isWet_eq hR hd, nI_1]
    dsimp only [Option.bind]
    generalize sayV (gi b 12) (wgt b) (teN b 0 (gi M 25) d) (raN b 0 (gi M 25) d) (cF b) = v
    cases wetB b d with
    | false =>
      show (if v = 0 then _ else _) = _
      by_cases h : v = 0
      · rw [if_pos h, decide_eq_true (show v = b1 false from h)]; rfl
      · rw [if_neg h, decide_eq_false (show ¬ v = b1 false from h)]; rfl
    | true =>
      show (if v = 1 then _ else _) = _
      by_cases h : v = 1
      · rw [if_pos h, decide_eq_true (show v = b1 true from h)]; rfl
      · rw [if_neg h, decide_eq_false (show ¬ v = b1 true from h)]; rfl
  · unfold fX11_keptOf_L4
    dsimp only
    rw [many_eq hR, if_pos (ple (by omega))]
theorem teN_mu {b : Rc} {g d f : Nat} (hg : g < 8) (hf : f < 8) : teN b 0 (nI g) d f = (te b d f && !(2 ^ g).testBit f) ∧ raN b 0 (nI g) d f = (ra b d f && !(2 ^ g).testBit f) := by
  unfold teN raN te ra tn
  rw [Nat.testBit_two_pow]
  by_cases e : f = g
  · subst e
    rw [if_pos rfl]
    simp
  · have e2 : ¬ nI f = nI g := fun z => e ((nI_eq (by omega) (by omega)).mp z)
    have e3 : ¬ g = f := fun z => e z.symm
    rw [if_neg e2, decide_eq_false e3]
    unfold wd
    cases fe b f d with
    | none => exact ⟨rfl, rfl⟩
    | some k =>
      show decide (¬ b1 (tw b f k ^^ (0 : Nat).testBit f) = -1) = (true && !false) ∧ decide (b1 (tw b f k ^^ (0 : Nat).testBit f) = 1) = ((some (tw b f k) == some true) && !false)
      rw [Nat.zero_testBit]
      cases tw b f k <;> exact ⟨rfl, rfl⟩
theorem teN_no {b : Rc} {d f : Nat} (hf : f < 8) : teN b 0 (-1) d f = te b d f ∧ raN b 0 (-1) d f = ra b d f := by
  unfold teN raN te ra
  rw [tn_tv hf]
  unfold tv wd
  cases fe b f d with
  | none => exact ⟨rfl, rfl⟩
  | some k =>
    show decide (¬ b1 (tw b f k) = -1) = true ∧ decide (b1 (tw b f k) = 1) = (some (tw b f k) == some true)
    cases tw b f k <;> exact ⟨rfl, rfl⟩
theorem keptM_no {b : Rc} (hF : cF b ≤ 8) : keptM b (-1) = keptC b (gi b 12) 0 := by
  unfold keptM keptC
  refine ct_cong (fun d _ => ?_)
  rw [sayV_cong (te' := fun f => te b d f && !(0 : Nat).testBit f) (ra' := fun f => ra b d f && !(0 : Nat).testBit f)]
  · intro f hf; rw [(teN_no (by omega)).1]; simp
  · intro f hf; rw [(teN_no (by omega)).2]; simp
theorem keptM_mu {b : Rc} (hF : cF b ≤ 8) {g : Nat} (hg : g < 8) : keptM b (nI g) = keptC b (gi b 12) (2 ^ g) := by
  unfold keptM keptC
  refine ct_cong (fun d _ => ?_)
  rw [sayV_cong (te' := fun f => te b d f && !(2 ^ g).testBit f) (ra' := fun f => ra b d f && !(2 ^ g).testBit f)]
  · intro f hf; exact (teN_mu hg (by omega)).1
  · intro f hf; exact (teN_mu hg (by omega)).2
/-- a bench sees no more of the reference than its slot -/
theorem RB_frame {b M M' : Rc} {o n : Nat} (h1 : ∀ k, k < 1040 → ga M' 0 (o + k) = ga M 0 (o + k)) (h2 : ∀ k, k < 8 → gb M' 1 (n + k) = gb M 1 (n + k)) (h : RB b M o n) : RB b M' o n := by
  obtain ⟨hB, a1, a2, a3, a4, a5, a6, a7, a8⟩ := h
  have hF : cF b ≤ 8 := hB.1.2
  have hD : cD b ≤ 60 := hB.2.1.2
  refine ⟨hB, ?_, ?_, ?_, ?_, ?_, ?_, ?_, ?_⟩
  · rw [← a1]; exact h1 0 (by omega)
  · rw [← a2]; exact h1 1 (by omega)
  · rw [← a3]; exact h1 2 (by omega)
  · intro f hf
    obtain ⟨b0, b1, b2, b3, b4, b5⟩ := a4 f hf
    have e0 := h1 (10 + 6 * f) (by omega)
    have e1 := h1 (10 + 6 * f + 1) (by omega)
    have e2 := h1 (10 + 6 * f + 2) (by omega)
    have e3 := h1 (10 + 6 * f + 3) (by omega)
    have e4 := h1 (10 + 6 * f + 4) (by omega)
    have e5 := h1 (10 + 6 * f + 5) (by omega)
    simp only [← Nat.add_assoc] at e0 e1 e2 e3 e4 e5
    exact ⟨by rw [e0, b0], by rw [e1, b1], by rw [e2, b2], by rw [e3, b3], by rw [e4, b4], by rw [e5, b5]⟩
  · intro i hi
    rw [← a5 i hi, Nat.add_assoc]
    exact h1 (58 + i) (by omega)
  · intro d hd
    rw [← a6 d hd, Nat.add_assoc]
    exact h1 (122 + d) (by omega)
  · intro f d hf hd
    rw [← a7 f d hf hd]
    have := h1 (182 + 60 * f + d) (by omega)
    simp only [← Nat.add_assoc] at this
    exact this
  · intro f hf
    obtain ⟨w, w1, w2, w3⟩ := a8 f hf
    exact ⟨w, w1, w2, by rw [h2 f (by omega), w3]⟩
theorem rb_law {b M : Rc} {n : Nat} (h : RB b M 0 n) {law : Int32} (h0 : 0 ≤ law.toInt) (h3 : law.toInt ≤ 3) : RB (si b 12 law) (sa M 0 (upd (ga M 0) 2 law)) 0 n := by
  obtain ⟨hB, a1, a2, a3, a4, a5, a6, a7, a8⟩ := h
  obtain ⟨c1, c2, c3, c4, c5, c6, c7, c8, c9⟩ := hB
  have hF : cF b ≤ 8 := c1.2
  have hD : cD b ≤ 60 := c2.2
  have g : ∀ k, ¬ k = 2 → ga (sa M 0 (upd (ga M 0) 2 law)) 0 k = ga M 0 k := fun k hk => upd_ne _ _ hk
  refine ⟨⟨c1, c2, c3, c4, c5, ⟨h0, h3⟩, c7, c8, c9⟩, ?_, ?_, rfl, ?_, ?_, ?_, ?_, ?_⟩
  · rw [g _ (by omega)]; exact a1
  · rw [g _ (by omega)]; exact a2
  · intro f hf
    obtain ⟨b0, b1, b2, b3, b4, b5⟩ := a4 f hf
    exact ⟨by rw [g _ (by omega)]; exact b0, by rw [g _ (by omega)]; exact b1, by rw [g _ (by omega)]; exact b2, by rw [g _ (by omega)]; exact b3, by rw [g _ (by omega)]; exact b4, by rw [g _ (by omega)]; exact b5⟩
  · intro i hi
    rw [g _ (by omega)]; exact a5 i hi
  · intro d hd
    rw [g _ (by omega)]; exact a6 d hd
  · intro f d hf hd
    rw [g _ (by omega)]; exact a7 f d hf hd
  · exact a8
theorem keptWith_eq {b M : Rc} {n : Nat} (hR : RB b M 0 n) (h25 : gi M 25 = -1) (h26 : gi M 26 = 0) {law : Int32} (h0 : 0 ≤ law.toInt) (h3 : law.toInt ≤ 3) : fX11_keptWith law M = some (nI (keptC b law 0), M) := by
  have hF : cF b ≤ 8 := hR.1.1.2
  unfold fX11_keptWith lt_
  dsimp only
  rw [c2, keptOf_eq (rb_law hR h0 h3) h26]
  dsimp only [Option.bind]
  rw [show gi (sa M 0 (upd (ga M 0) 2 law)) 25 = -1 from h25, keptM_no (b := si b 12 law) hF]
  congr 2
  rw [sa_sa, show ga (sa M 0 (upd (ga M 0) 2 law)) 0 = upd (ga M 0) 2 law from rfl, upd_upd, upd_id _ _ rfl, sa_id]
theorem b_kept : BT_kept Rel := by
  intro sg M hR
  apply bt_q hR
  obtain ⟨hb, h25, h26⟩ := rel_b hR
  generalize sg 1 = b at *
  generalize sg 0 = kb at *
  have hD : cD b ≤ 60 := hb.1.2.1.2
  have hF : cF b ≤ 8 := hb.1.1.2
  unfold fX10_kept fX11_kept
  rw [keptOf_eq hb h26, h25, keptM_no hF, show (0 : Int32) = nI 0 from rfl, keptUnder_eq hb.1 _ (by decide)]
  exact qq_ans _
theorem b_keptBy : BT_keptBy Rel := by
  intro sg M hR p1
  apply bt_q hR
  obtain ⟨hb, h25, h26⟩ := rel_b hR
  generalize sg 1 = b at *
  generalize sg 0 = kb at *
  have hD : cD b ≤ 60 := hb.1.2.1.2
  have hF : cF b ≤ 8 := hb.1.1.2
  unfold fX10_keptBy fX11_keptBy
  rcases rng_cases p1 0 3 (lo' := 0) (hi' := 3) rfl rfl with ⟨a, c, e1, e2⟩ | ⟨-, e1, e2⟩
  · simp only [e1, e2, i00, i10, if_true]
    rw [show (0 : Int32) = nI 0 from rfl, keptUnder_eq hb.1 _ (by decide), keptWith_eq hb h25 h26 a c]
    exact qq_ans _
  · simp only [e1, e2, i00, i10, if_true]
    exact qq_ref 1
theorem b_bestLaw : BT_bestLaw Rel := by
  intro sg M hR
  apply bt_q hR
  obtain ⟨hb, h25, h26⟩ := rel_b hR
  generalize sg 1 = b at *
  generalize sg 0 = kb at *
  have hD : cD b ≤ 60 := hb.1.2.1.2
  have hF : cF b ≤ 8 := hb.1.1.2
  unfold fX10_bestLaw fX11_bestLaw
  obtain ⟨r, k, l1, l2, l3⟩ := loop_rel (b := fX10_bestLaw_L4 b) (c := fX11_bestLaw_L4) (fun d s t => ∃ x, 0 ≤ Int32.toInt x ∧ Int32.toInt x ≤ 3 ∧ s = (x, nI (1 + d)) ∧ t = (x, nI (1 + d), M)) (fun r k => k = (r, M)) 3 (fun d s t hd h => by
    obtain ⟨x, x1, x2, rfl, rfl⟩ := h
    have t1 : (nI (1 + d)).toInt = ((1 + d : Nat) : Int) := nI_toInt (by omega)
    unfold fX10_bestLaw_L4 fX11_bestLaw_L4
    dsimp only
    rw [show (4 : Int32) = nI 4 from rfl, if_neg (nI_ge (show 1 + d < 4 by omega) (by decide)), if_neg (nI_ge (show 1 + d < 4 by omega) (by decide)), show (0 : Int32) = nI 0 from rfl, keptUnder_eq hb.1 _ (by decide), keptUnder_eq hb.1 _ (by decide), keptWith_eq hb h25 h26 (by omega) (by omega)]
    dsimp only [Option.bind]
    rw [keptWith_eq hb h25 h26 x1 x2, nI_1]
    left
    dsimp only
    split
    · exact ⟨_, _, rfl, rfl, x, x1, x2, rfl, rfl⟩
    · exact ⟨_, _, rfl, rfl, nI (1 + d), by omega, by omega, rfl, rfl⟩) (fun s t h => by
    obtain ⟨x, x1, x2, rfl, rfl⟩ := h
    exact ⟨x, (x, M), rfl, rfl, rfl⟩) 3 0 ((0 : Int32), (1 : Int32)) ((0 : Int32), (1 : Int32), M) rfl ⟨0, by decide, by decide, rfl, rfl⟩
  subst l3
  rw [l1, l2]
  exact qq_ans _
theorem b_useful : BT_useful Rel := by
  intro sg M hR p1
  apply bt_q hR
  obtain ⟨hb, h25, h26⟩ := rel_b hR
  generalize sg 1 = b at *
  generalize sg 0 = kb at *
  have hD : cD b ≤ 60 := hb.1.2.1.2
  have hF : cF b ≤ 8 := hb.1.1.2
  unfold fX10_useful fX11_useful
  rcases farmer_cases hb kb p1 with ⟨f, hf, rfl, e1, e2⟩ | ⟨e1, e2⟩
  · simp only [e1, e2, i00, i10, if_true]
    have hb2 : RB b (si M 25 (nI f)) 0 0 := hb
    have p8 : 2 ^ f < 256 := Nat.lt_of_lt_of_le (Nat.pow_lt_pow_right (by decide) (show f < 8 by omega)) (by decide)
    rw [nx_one f (by omega), show (0 : Int32) = nI 0 from rfl, keptUnder_eq hb.1 _ (by decide), keptUnder_eq hb.1 _ p8, keptOf_eq hb h26, h25, keptM_no hF]
    unfold lt_
    dsimp only [Option.bind]
    rw [keptOf_eq hb2 h26, show gi (si M 25 (nI f)) 25 = nI f from rfl, keptM_mu hF (by omega)]
    dsimp only
    rw [si_si, si_id M 25 h25]
    exact qq_ans _
  · simp only [e1, e2, i00, i10, if_true]
    exact qq_ref 1
theorem b_nextWrong : BT_nextWrong Rel := by
  intro sg M hR p1
  apply bt_q hR
  obtain ⟨hb, h25, h26⟩ := rel_b hR
  generalize sg 1 = b at *
  generalize sg 0 = kb at *
  have hD : cD b ≤ 60 := hb.1.2.1.2
  have hF : cF b ≤ 8 := hb.1.1.2
  unfold fX10_nextWrong fX11_nextWrong
  rcases rng_cases p1 0 59 (lo' := 0) (hi' := 59) rfl rfl with ⟨a, c, e1, e2⟩ | ⟨-, e1, e2⟩
  · simp only [e1, e2, i00, i10, if_true]
    rw [i_0] at a
    rw [show (59 : Int32).toInt = 59 from rfl] at c
    obtain ⟨d0, hd0, rfl⟩ : ∃ d0, d0 ≤ 59 ∧ p1 = nI d0 := ⟨p1.toInt.toNat, by omega, i_nat (by omega)⟩
    obtain ⟨r, k, l1, l2, l3⟩ := loop_rel (b := fX10_nextWrong_L18 b) (c := fX11_nextWrong_L20 M) (fun d s t => s = nI (d0 + d) ∧ t = nI (d0 + d)) (fun r k => r = k) (cD b - d0) (fun d s t hd h => by
      obtain ⟨rfl, rfl⟩ := h
      unfold fX10_nextWrong_L18 fX11_nextWrong_L20 fX11_nextWrong_J48
      rw [hb.1.2.1.1, many_eq hb, if_neg (n_ge (by omega) hD), if_neg (n_ge (by omega) hD), verdictOf_eq hb.1 (by omega), say_eq hb h25 h26 (by omega), isWet_eq hb (by omega), wetOn_eq (by omega), nI_1]
      dsimp only [Option.bind]
      cases wetB b (d0 + d) with
      | true =>
        show (∃ s' t', (if say b (d0 + d) = 0 then _ else _) = _ ∧ (if say b (d0 + d) = 0 then _ else _) = _ ∧ _) ∨ (∃ r k, (if say b (d0 + d) = 0 then _ else _) = _ ∧ (if say b (d0 + d) = 0 then _ else _) = _ ∧ _)
        by_cases q : say b (d0 + d) = 0
        · simp only [if_pos q]; exact Or.inr ⟨_, _, rfl, rfl, rfl⟩
        · simp only [if_neg q]; exact Or.inl ⟨_, _, rfl, rfl, rfl, rfl⟩
      | false =>
        show (∃ s' t', (if say b (d0 + d) = 1 then _ else _) = _ ∧ (if say b (d0 + d) = 1 then _ else _) = _ ∧ _) ∨ (∃ r k, (if say b (d0 + d) = 1 then _ else _) = _ ∧ (if say b (d0 + d) = 1 then _ else _) = _ ∧ _)
        by_cases q : say b (d0 + d) = 1
        · simp only [if_pos q]; exact Or.inr ⟨_, _, rfl, rfl, rfl⟩
        · simp only [if_neg q]; exact Or.inl ⟨_, _, rfl, rfl, rfl, rfl⟩) (fun s t h => by
      obtain ⟨rfl, rfl⟩ := h
      unfold fX10_nextWrong_L18 fX11_nextWrong_L20
      rw [hb.1.2.1.1, many_eq hb, if_pos (nI_le (by omega) (by omega)), if_pos (nI_le (by omega) (by omega))]
      exact ⟨_, _, rfl, rfl, rfl⟩) (cD b - d0) 0 (nI d0) (nI d0) (by omega) ⟨rfl, rfl⟩
    subst l3
    rw [l1, l2]
    cases r with
    | inl v => exact qq_ans _
    | inr v => exact qq_ref 6
  · simp only [e1, e2, i00, i10, if_true]
    exact qq_ref 1
