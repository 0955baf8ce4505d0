/-! ===== (B) more questions ===== -/
theorem couple_cases {b M : Rc} {n : Nat} (hR : RB b M 0 n) (kb : Rc) (x y : Int32) : (∃ f g, f < cF b ∧ g < cF b ∧ x = nI f ∧ y = nI g ∧ ¬ x = y ∧ fX10_noCouple x y kb b = 0 ∧ fX11_isFarmer x M = 1 ∧ fX11_isFarmer y M = 1) ∨ (fX10_noCouple x y kb b = 1 ∧ (fX11_isFarmer x M = 0 ∨ (fX11_isFarmer x M = 1 ∧ fX11_isFarmer y M = 0) ∨ (fX11_isFarmer x M = 1 ∧ fX11_isFarmer y M = 1 ∧ x = y))) := by
  unfold fX10_noCouple
  rcases farmer_cases hR kb x with ⟨f, hf, ex, e1, e2⟩ | ⟨e1, e2⟩
  · rcases farmer_cases hR kb y with ⟨g, hg, ey, e3, e4⟩ | ⟨e3, e4⟩
    · simp only [e1, e3, i00, i10, if_true]
      by_cases q : x = y
      · exact Or.inr ⟨if_pos q, Or.inr (Or.inr ⟨e2, e4, q⟩)⟩
      · exact Or.inl ⟨f, g, hf, hg, ex, ey, q, if_neg q, e2, e4⟩
    · simp only [e1, e3, i00, i10, if_true]
      exact Or.inr ⟨trivial, Or.inr (Or.inl ⟨e2, e4⟩)⟩
  · simp only [e1, i00, i10, if_true]
    exact Or.inr ⟨trivial, Or.inl e2⟩
theorem shared_eq {b : Rc} (hB : BI b) {f g : Nat} (hf : f < cF b) (hg : g < cF b) : fX0_twingesShared (nI f) (nI g) b = some (nI (ct (fun d => tw b f d && tw b g d) (cD b))) := by
  have hF : cF b ≤ 8 := hB.1.2
  have hD : cD b ≤ 60 := hB.2.1.2
  unfold fX0_twingesShared
  rw [gd_pos (inbn (by omega) (by decide)), gd_pos (inbn (by omega) (by decide)), nI_clamp (by omega), nI_clamp (by omega)]
  congr 1
  refine bc_ct (by omega) (fun k hk => ?_)
  rw [tb_and]
  show (tw b f k && tw b g k) = _
  rcases Nat.lt_or_ge k (cD b) with q | q
  · rw [decide_eq_true q, Bool.true_and]
  · rw [(hB.2.2.1 f hf).2.2.2.2.2 k q]; simp
theorem alikeOf_eq {b M : Rc} {n : Nat} (hb : RB b M 0 n) {f g : Nat} (hf : f < cF b) (hg : g < cF b) : fX11_alikeOf (nI f) (nI g) M = some (nI (ct (fun d => tw b f d && tw b g d) (cD b))) := by
  have hD : cD b ≤ 60 := hb.1.2.1.2
  unfold fX11_alikeOf
  rw [cnt_loop (fun d => tw b f d && tw b g d) (cD b) (fun d x hd => ?_) (fun x => ?_)]
  · rfl
  · unfold fX11_alikeOf_L5
    dsimp only
    rw [many_eq hb, if_neg (n_ge hd hD), felt_eq hb hf hd, felt_eq hb hg hd, nI_1]
    cases tw b f d <;> cases tw b g d <;> rfl
  · unfold fX11_alikeOf_L5
    dsimp only
    rw [many_eq hb, if_pos (ple (by omega))]
theorem b_alike : BT_alike Rel := by
  intro sg M hR p1 p2
  apply bt_q hR
  obtain ⟨hb, h25, h26⟩ := rel_b hR
  generalize sg 1 = b at *
  generalize sg 0 = kb at *
  have hD : cD b ≤ 60 := hb.1.2.1.2
  have hF : cF b ≤ 8 := hb.1.1.2
  unfold fX10_alike fX11_alike
  rcases couple_cases hb kb p1 p2 with ⟨f, g, hf, hg, rfl, rfl, ne, e1, e2, e3⟩ | ⟨e1, e2 | ⟨e2, e3⟩ | ⟨e2, e3, e4⟩⟩
  · simp only [e1, e2, e3, i00, i10, if_true, if_neg ne]
    rw [shared_eq hb.1 hf hg, alikeOf_eq hb hf hg]
    exact qq_ans _
  · simp only [e1, e2, i00, i10, if_true]
    exact qq_ref 1
  · simp only [e1, e2, e3, i00, i10, if_true]
    exact qq_ref 1
  · simp only [e1, e2, e3, i00, i10, if_true, if_pos e4]
    exact qq_ref 1
theorem b_wrongs : BT_wrongs Rel := by
  intro sg M hR p1 p2
  apply bt_q hR
  obtain ⟨hb, h25, h26⟩ := rel_b hR
  generalize sg 1 = b at *
  generalize sg 0 = kb at *
  have hD : cD b ≤ 60 := hb.1.2.1.2
  have hF : cF b ≤ 8 := hb.1.1.2
  unfold fX10_wrongs fX11_wrongs
  rcases farmer_cases hb kb p1 with ⟨f, hf, rfl, e1, e2⟩ | ⟨e1, e2⟩
  · simp only [e1, e2, i00, i10, if_true]
    obtain ⟨x, x1, x2⟩ := due_eq hb.1 hf
    rw [x1]
    dsimp only [Option.bind]
    rw [gd_pos (inbn (by omega) (by decide)), nI_clamp (by omega)]
    have c1 : fJ13_bitCount_95d88 (gb b 6 f &&& (x ^^^ (-1))) = nI (ct (fun d => tw b f d && !due b f d) (cD b)) := bc_ct (by omega) (fun k hk => by
      rw [tb_and, tb_not hk, x2 k hk]
      show (tw b f k && _) = _
      rcases Nat.lt_or_ge k (cD b) with q | q
      · rw [decide_eq_true q, Bool.true_and]
      · rw [(hb.1.2.2.1 f hf).2.2.2.2.2 k q]; simp)
    have c2 : fJ13_bitCount_95d88 (x &&& (gb b 6 f ^^^ (-1))) = nI (ct (fun d => !tw b f d && due b f d) (cD b)) := bc_ct (by omega) (fun k hk => by
      rw [tb_and, tb_not hk, x2 k hk]
      show (_ && !tw b f k) = _
      rcases Nat.lt_or_ge k (cD b) with q | q
      · rw [decide_eq_true q, Bool.true_and, Bool.and_comm]
      · rw [decide_eq_false (by omega)]
        unfold due clB
        rw [decide_eq_false (by omega)]; rfl)
    rcases what01 p2 with ⟨h, e3⟩ | ⟨h, e3⟩ | ⟨h, h2, e3⟩
    · simp only [e3, i00, i10, if_true]
      rcases h with rfl | rfl
      · have l1 : loopF (fX11_wrongs_L28 (nI f) 0 M) ((0 : Int32), (0 : Int32)) = some (nI (ct (fun d => tw b f d && !due b f d) (cD b))) := by
          refine cnt_loop _ (cD b) (fun d y hd => ?_) (fun y => ?_)
          · unfold fX11_wrongs_L28 fX11_wrongs_J56 fX11_wrongs_J76
            dsimp only
            rw [many_eq hb, if_neg (n_ge hd hD), felt_eq hb hf hd, shouldFeel_eq hb hf hd, nI_1]
            cases tw b f d <;> cases due b f d <;> rfl
          · unfold fX11_wrongs_L28
            dsimp only
            rw [many_eq hb, if_pos (ple (by omega))]
        rw [l1]
        show QQ (some (fX10_answer (fJ13_bitCount_95d88 (gb b 6 f &&& (x ^^^ (-1)))) kb)) _ kb M
        rw [c1]
        exact qq_ans _
      · have l1 : loopF (fX11_wrongs_L28 (nI f) 1 M) ((0 : Int32), (0 : Int32)) = some (nI (ct (fun d => !tw b f d && due b f d) (cD b))) := by
          refine cnt_loop _ (cD b) (fun d y hd => ?_) (fun y => ?_)
          · unfold fX11_wrongs_L28 fX11_wrongs_J56 fX11_wrongs_J76
            dsimp only
            rw [many_eq hb, if_neg (n_ge hd hD), felt_eq hb hf hd, shouldFeel_eq hb hf hd, nI_1]
            cases tw b f d <;> cases due b f d <;> rfl
          · unfold fX11_wrongs_L28
            dsimp only
            rw [many_eq hb, if_pos (ple (by omega))]
        rw [l1]
        show QQ (some (fX10_answer (fJ13_bitCount_95d88 (x &&& (gb b 6 f ^^^ (-1)))) kb)) _ kb M
        rw [c2]
        exact qq_ans _
    · simp only [e3, i00, i10, if_true, if_pos h]
      exact qq_ref 1
    · simp only [e3, i00, i10, if_true, if_neg h, if_neg h2]
      exact qq_ref 1
  · simp only [e1, e2, i00, i10, if_true]
    exact qq_ref 1
theorem b_clashes : BT_clashes Rel := by
  intro sg M hR p1 p2
  apply bt_q hR
  obtain ⟨hb, h25, h26⟩ := rel_b hR
  generalize sg 1 = b at *
  generalize sg 0 = kb at *
  have hD : cD b ≤ 60 := hb.1.2.1.2
  have hF : cF b ≤ 8 := hb.1.1.2
  unfold fX10_clashes fX11_clashes
  rcases couple_cases hb kb p1 p2 with ⟨f, g, hf, hg, rfl, rfl, ne, e1, e2, e3⟩ | ⟨e1, e2 | ⟨e2, e3⟩ | ⟨e2, e3, e4⟩⟩
  · simp only [e1, e2, e3, i00, i10, if_true, if_neg ne]
    obtain ⟨x, x1, x2⟩ := told_eq hb.1 hf
    obtain ⟨y, y1, y2⟩ := told_eq hb.1 hg
    obtain ⟨u, u1, u2⟩ := rain_eq hb.1 hf
    obtain ⟨v, v1, v2⟩ := rain_eq hb.1 hg
    rw [x1, y1, u1, v1]
    have c1 : fJ13_bitCount_95d88 ((x &&& y) &&& (u ^^^ v)) = nI (ct (fun d => (te b d f && te b d g) && (ra b d f ^^ ra b d g)) (cD b)) := bc_ct (by omega) (fun k hk => by
      rw [tb_and, tb_and, tb_xor, x2 k hk, y2 k hk, u2 k hk, v2 k hk]
      show _ = (dayB b k && ((te b k f && te b k g) && (ra b k f ^^ ra b k g)))
      show ((dayB b k && te b k f) && (dayB b k && te b k g) && ((dayB b k && ra b k f) ^^ (dayB b k && ra b k g))) = _
      cases dayB b k <;> simp)
    have l1 : loopF (fX11_clashes_L32 (nI f) (nI g) M) ((0 : Int32), (0 : Int32)) = some (nI (ct (fun d => (te b d f && te b d g) && (ra b d f ^^ ra b d g)) (cD b))) := by
      refine cnt_loop _ (cD b) (fun d y hd => ?_) (fun y => ?_)
      · unfold fX11_clashes_L32
        dsimp only
        rw [many_eq hb, if_neg (n_ge hd hD), tell_eq hb h25 h26 hf (by omega), tell_eq hb h25 h26 hg (by omega), nI_1]
        unfold tv te ra wd
        cases fe b f d with
        | none => rfl
        | some j =>
          cases fe b g d with
          | none => show (if b1 (tw b f j) = -1 then _ else if (-1 : Int32) = 1 - b1 (tw b f j) then _ else _) = _; cases tw b f j <;> rfl
          | some i =>
            show (if b1 (tw b f j) = -1 then _ else if b1 (tw b g i) = 1 - b1 (tw b f j) then _ else _) = some (Sum.inl (y + b1 ((true && true) && ((some (tw b f j) == some true) ^^ (some (tw b g i) == some true))), nI (d + 1)))
            cases tw b f j <;> cases tw b g i <;> rfl
      · unfold fX11_clashes_L32
        dsimp only
        rw [many_eq hb, if_pos (ple (by omega))]
    rw [l1]
    show QQ (some (fX10_answer (fJ13_bitCount_95d88 ((x &&& y) &&& (u ^^^ v))) kb)) _ kb M
    rw [c1]
    exact qq_ans _
  · simp only [e1, e2, i00, i10, if_true]
    exact qq_ref 1
  · simp only [e1, e2, e3, i00, i10, if_true]
    exact qq_ref 1
  · simp only [e1, e2, e3, i00, i10, if_true, if_pos e4]
    exact qq_ref 1
theorem ct_not (p : Nat → Bool) : ∀ n, ct p n + ct (fun k => !p k) n = n := by
  intro n
  induction n with
  | zero => rfl
  | succ n ih => rw [ct_succ, ct_succ]; cases p n <;> simp <;> omega
/-- one of n at least -/
def an (p : Nat → Bool) : Nat → Bool
  | 0 => false
  | n + 1 => an p n || p n
theorem an_succ (p : Nat → Bool) (n : Nat) : an p (n + 1) = (an p n || p n) := rfl
theorem an_cong {p q : Nat → Bool} : ∀ {n : Nat}, (∀ k, k < n → p k = q k) → an p n = an q n := by
  intro n
  induction n with
  | zero => intro _; rfl
  | succ n ih => intro h; rw [an_succ, an_succ, ih (fun k hk => h k (by omega)), h n (by omega)]
theorem an_ct (p : Nat → Bool) : ∀ n, an p n = decide (¬ ct p n = 0) := by
  intro n
  induction n with
  | zero => rfl
  | succ n ih =>
    rw [an_succ, ih, ct_succ]
    cases p n with
    | true => simp
    | false => simp
theorem say_none {b : Rc} {d : Nat} : say b d = -1 ↔ ct (te b d) (cF b) = 0 := by
  unfold say sayV
  constructor
  · intro h
    split at h
    · assumption
    · rename_i k0
      revert h
      generalize (if gi b 12 = 0 then _ else _ : Bool) = q
      cases q <;> (intro h; exact absurd h (by decide))
  · intro h
    rw [if_pos h]
theorem b_silent : BT_silent Rel := by
  intro sg M hR
  apply bt_q hR
  obtain ⟨hb, h25, h26⟩ := rel_b hR
  generalize sg 1 = b at *
  generalize sg 0 = kb at *
  have hD : cD b ≤ 60 := hb.1.2.1.2
  have hF : cF b ≤ 8 := hb.1.1.2
  unfold fX10_silent fX11_silent
  obtain ⟨x, l1, hx⟩ := loop_one (b := fX10_silent_L4 b) (fun i s => s.2 = nI i ∧ ∀ k, k < 64 → tb s.1 k = (dayB b k && an (te b k) i)) (fun r => ∀ k, k < 64 → tb r k = (dayB b k && an (te b k) (cF b))) (cF b) (fun i s hi h => by
      obtain ⟨x, j⟩ := s
      obtain ⟨rfl, hx⟩ := h
      obtain ⟨y, y1, y2⟩ := told_eq hb.1 hi
      refine Or.inl ⟨(x ||| y, nI (i + 1)), ?_, rfl, fun k hk => ?_⟩
      · unfold fX10_silent_L4
        dsimp only
        rw [hb.1.1.1, if_neg (nI_ge hi (by omega)), y1, nI_1]; rfl
      · show tb (x ||| y) k = _
        rw [tb_or, hx k hk, y2 k hk, an_succ]
        show ((dayB b k && an (te b k) i) || (dayB b k && te b k i)) = _
        cases dayB b k <;> rfl) (fun s h => by
      obtain ⟨x, j⟩ := s
      obtain ⟨rfl, hx⟩ := h
      refine ⟨x, ?_, hx⟩
      unfold fX10_silent_L4
      dsimp only
      rw [hb.1.1.1, if_pos (nI_le (Nat.le_refl _) (by omega))]) (cF b) 0 ((0 : Int64), (0 : Int32)) (by omega) ⟨rfl, fun k hk => by rw [tb_zero]; cases dayB b k <;> rfl⟩
  have c1 : fJ13_bitCount_95d88 x = nI (ct (fun d => an (te b d) (cF b)) (cD b)) := bc_ct (by omega) hx
  have l2 : loopF (fX11_silent_L4 M) ((0 : Int32), (0 : Int32)) = some (nI (ct (fun d => !an (te b d) (cF b)) (cD b))) := by
    refine cnt_loop _ (cD b) (fun d y hd => ?_) (fun y => ?_)
    · unfold fX11_silent_L4
      dsimp only
      rw [many_eq hb, if_neg (n_ge hd hD), say_eq hb h25 h26 (by omega), nI_1, an_ct]
      dsimp only [Option.bind]
      by_cases q : ct (te b d) (cF b) = 0
      · rw [if_pos (say_none.mpr q), decide_eq_false (fun z => z q)]; rfl
      · rw [if_neg (fun z => q (say_none.mp z)), decide_eq_true q]; rfl
    · unfold fX11_silent_L4
      dsimp only
      rw [many_eq hb, if_pos (ple (by omega))]
  rw [l1, l2]
  show QQ (some (fX10_answer (gi b 9 - fJ13_bitCount_95d88 x) kb)) _ kb M
  have e : gi b 9 - fJ13_bitCount_95d88 x = nI (ct (fun d => !an (te b d) (cF b)) (cD b)) := by
    rw [c1, hb.1.2.1.1]
    have h := ct_not (fun d => an (te b d) (cF b)) (cD b)
    apply i_ext
    rw [i_sub (by rw [nI_toInt (by omega), nI_toInt (by omega)]; omega) (by rw [nI_toInt (by omega), nI_toInt (by omega)]; omega), nI_toInt (by omega), nI_toInt (by omega), nI_toInt (by omega)]
    omega
  rw [e]
  exact qq_ans _
theorem ofSet_eq {b : Rc} (hB : BI b) {s : Nat} (hs : s < 256) : ∃ x, fX0_rainDaysOfSet (nI s) b = some x ∧ ∀ k, k < 64 → tb x k = (dayB b k && an (fun f => s.testBit f && ra b k f) (cF b)) := by
  have hF : cF b ≤ 8 := hB.1.2
  obtain ⟨x, l1, hx⟩ := loop_one (b := fX0_rainDaysOfSet_L5 (nI s) b) (fun i z => z.2 = nI i ∧ ∀ k, k < 64 → tb z.1 k = (dayB b k && an (fun f => s.testBit f && ra b k f) i)) (fun r => ∀ k, k < 64 → tb r k = (dayB b k && an (fun f => s.testBit f && ra b k f) (cF b))) (cF b) (fun i z hi h => by
      obtain ⟨x, j⟩ := z
      obtain ⟨rfl, hx⟩ := h
      obtain ⟨y, y1, y2⟩ := rain_eq hB hi
      have e := m_bit s hs i (by omega)
      cases hq : s.testBit i with
      | false =>
        refine Or.inl ⟨(x, nI (i + 1)), ?_, rfl, fun k hk => ?_⟩
        · unfold fX0_rainDaysOfSet_L5
          dsimp only
          rw [hB.1.1, if_neg (nI_ge hi (by omega)), e, hq, nI_1]; rfl
        · show tb x k = _
          rw [hx k hk, an_succ, hq, Bool.false_and, Bool.or_false]
      | true =>
        refine Or.inl ⟨(x ||| y, nI (i + 1)), ?_, rfl, fun k hk => ?_⟩
        · unfold fX0_rainDaysOfSet_L5
          dsimp only
          rw [hB.1.1, if_neg (nI_ge hi (by omega)), e, hq, y1, nI_1]; rfl
        · show tb (x ||| y) k = _
          rw [tb_or, hx k hk, y2 k hk, an_succ, hq, Bool.true_and]
          show (_ || (dayB b k && ra b k i)) = _
          cases dayB b k <;> rfl) (fun z h => by
      obtain ⟨x, j⟩ := z
      obtain ⟨rfl, hx⟩ := h
      refine ⟨x, ?_, hx⟩
      unfold fX0_rainDaysOfSet_L5
      dsimp only
      rw [hB.1.1, if_pos (nI_le (Nat.le_refl _) (by omega))]) (cF b) 0 ((0 : Int64), (0 : Int32)) (by omega) ⟨rfl, fun k hk => by rw [tb_zero]; cases dayB b k <;> rfl⟩
  refine ⟨x, ?_, hx⟩
  unfold fX0_rainDaysOfSet
  rw [l1]; rfl
theorem all_set : ∀ n, n ≤ 8 → ((1 : Int32) <<< (nI n &&& 31)) - 1 = nI (2 ^ n - 1) := by decide +kernel
theorem wet_bit {b : Rc} (hB : BI b) {k : Nat} : wetB b k = (dayB b k && wetB b k) := by
  cases h : wetB b k with
  | false => rw [Bool.and_false]
  | true => unfold dayB; rw [decide_eq_true (wet_lt hB h)]; rfl
theorem warn_in {b M : Rc} {n : Nat} (hb : RB b M 0 n) (h25 : gi M 25 = -1) (h26 : gi M 26 = 0) {d : Nat} (hd : d ≤ 62) (y : Int32) : loopF (fX11_warned_L35 M (y, nI d)) ((0 : Int32), (0 : Int32)) = some (b1 (an (ra b d) (cF b))) := by
  have hF : cF b ≤ 8 := hb.1.1.2
  refine loopF_run (fun i => (b1 (an (ra b d) i), nI i)) (cF b) (fun i hi => ?_) ?_
  · unfold fX11_warned_L35
    dsimp only
    rw [frms_eq hb, if_neg (nI_ge hi (by omega)), tell_eq hb h25 h26 hi hd, nI_1, an_succ]
    unfold tv ra
    cases an (fun f => wd b f d == some true) i with
    | true => rfl
    | false =>
      cases wd b i d with
      | none => rfl
      | some w => cases w <;> rfl
  · unfold fX11_warned_L35
    dsimp only
    rw [frms_eq hb, if_pos (nI_le (Nat.le_refl _) (by omega))]
theorem b_warned : BT_warned Rel := by
  intro sg M hR p1
  apply bt_q hR
  obtain ⟨hb, h25, h26⟩ := rel_b hR
  generalize sg 1 = b at *
  generalize sg 0 = kb at *
  have hD : cD b ≤ 60 := hb.1.2.1.2
  have hF : cF b ≤ 8 := hb.1.1.2
  unfold fX10_warned fX11_warned
  have hset : ((1 : Int32) <<< (gi b 8 &&& 31)) - 1 = nI (2 ^ cF b - 1) := by rw [hb.1.1.1]; exact all_set _ hF
  have hlt : 2 ^ cF b - 1 < 256 := by have : 2 ^ cF b ≤ 2 ^ 8 := Nat.pow_le_pow_right (by decide) hF; omega
  obtain ⟨x, x1, x2⟩ := ofSet_eq hb.1 hlt
  have x3 : ∀ k, k < 64 → tb x k = (dayB b k && an (ra b k) (cF b)) := fun k hk => by
    have e : an (fun f => ((2 : Nat) ^ cF b - 1).testBit f && ra b k f) (cF b) = an (ra b k) (cF b) := an_cong (fun f hf => by
      show (((2 : Nat) ^ cF b - 1).testBit f && ra b k f) = ra b k f
      rw [Nat.testBit_two_pow_sub_one, decide_eq_true hf, Bool.true_and])
    rw [x2 k hk, e]
  have c1 : fJ13_bitCount_95d88 (gl b 10 &&& x) = nI (ct (fun d => wetB b d && an (ra b d) (cF b)) (cD b)) := bc_ct (by omega) (fun k hk => by
    rw [tb_and, x3 k hk]
    show (wetB b k && _) = (dayB b k && _)
    rw [wet_bit hb.1]
    cases dayB b k <;> simp)
  have c2 : fJ13_bitCount_95d88 (gl b 10 &&& (x ^^^ (-1))) = nI (ct (fun d => wetB b d && !an (ra b d) (cF b)) (cD b)) := bc_ct (by omega) (fun k hk => by
    rw [tb_and, tb_not hk, x3 k hk]
    show (wetB b k && _) = (dayB b k && _)
    rw [wet_bit hb.1]
    cases dayB b k <;> simp)
  rcases what01 p1 with ⟨h, e3⟩ | ⟨h, e3⟩ | ⟨h, h2, e3⟩
  · simp only [e3, i00, i10, if_true, hset, x1]
    rcases h with rfl | rfl
    · have l1 : loopF (fX11_warned_L19 0 M) ((0 : Int32), (0 : Int32)) = some (nI (ct (fun d => wetB b d && an (ra b d) (cF b)) (cD b))) := by
        refine cnt_loop _ (cD b) (fun d y hd => ?_) (fun y => ?_)
        · unfold fX11_warned_L19 fX11_warned_J95
          dsimp only
          rw [many_eq hb, if_neg (n_ge hd hD), warn_in hb h25 h26 (by omega), isWet_eq hb hd, nI_1]
          cases wetB b d <;> cases an (ra b d) (cF b) <;> rfl
        · unfold fX11_warned_L19
          dsimp only
          rw [many_eq hb, if_pos (ple (by omega))]
      rw [l1]
      show QQ (some (fX10_answer (fJ13_bitCount_95d88 (gl b 10 &&& x)) kb)) _ kb M
      rw [c1]
      exact qq_ans _
    · have l1 : loopF (fX11_warned_L19 1 M) ((0 : Int32), (0 : Int32)) = some (nI (ct (fun d => wetB b d && !an (ra b d) (cF b)) (cD b))) := by
        refine cnt_loop _ (cD b) (fun d y hd => ?_) (fun y => ?_)
        · unfold fX11_warned_L19 fX11_warned_J95
          dsimp only
          rw [many_eq hb, if_neg (n_ge hd hD), warn_in hb h25 h26 (by omega), isWet_eq hb hd, nI_1]
          cases wetB b d <;> cases an (ra b d) (cF b) <;> rfl
        · unfold fX11_warned_L19
          dsimp only
          rw [many_eq hb, if_pos (ple (by omega))]
      rw [l1]
      show QQ (some (fX10_answer (fJ13_bitCount_95d88 (gl b 10 &&& (x ^^^ (-1)))) kb)) _ kb M
      rw [c2]
      exact qq_ans _
  · simp only [e3, i00, i10, if_true, if_pos h]
    exact qq_ref 1
  · simp only [e3, i00, i10, if_true, if_neg h, if_neg h2]
    exact qq_ref 1
