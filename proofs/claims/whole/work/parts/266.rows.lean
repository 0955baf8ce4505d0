/-! ===== (B) the longest row of days ===== -/
def rn (p : Nat → Bool) : Nat → Nat
  | 0 => 0
  | d + 1 => if p d = true then rn p d + 1 else 0
def mx (p : Nat → Bool) : Nat → Nat
  | 0 => 0
  | d + 1 => max (mx p d) (rn p (d + 1))
theorem rn_succ (p : Nat → Bool) (d : Nat) : rn p (d + 1) = if p d = true then rn p d + 1 else 0 := rfl
theorem mx_succ (p : Nat → Bool) (d : Nat) : mx p (d + 1) = max (mx p d) (rn p (d + 1)) := rfl
theorem rn_le (p : Nat → Bool) : ∀ d, rn p d ≤ d := by
  intro d
  induction d with
  | zero => exact Nat.le_refl _
  | succ d ih => rw [rn_succ]; split <;> omega
theorem mx_le (p : Nat → Bool) : ∀ d, mx p d ≤ d := by
  intro d
  induction d with
  | zero => exact Nat.le_refl _
  | succ d ih => have := rn_le p (d + 1); rw [mx_succ]; omega
theorem rn_true (p : Nat → Bool) : ∀ d j, j < rn p d → j < d ∧ p (d - 1 - j) = true := by
  intro d
  induction d with
  | zero => intro j h; exact absurd h (Nat.not_lt_zero j)
  | succ d ih =>
    intro j h
    rw [rn_succ] at h
    split at h
    · rename_i hp
      cases j with
      | zero => exact ⟨by omega, by rw [show d + 1 - 1 - 0 = d by omega]; exact hp⟩
      | succ j =>
        obtain ⟨h1, h2⟩ := ih j (by omega)
        exact ⟨by omega, by rw [show d + 1 - 1 - (j + 1) = d - 1 - j by omega]; exact h2⟩
    · omega
theorem rn_ge (p : Nat → Bool) (k : Nat) : ∀ i, (∀ j, j ≤ i → p (k + j) = true) → i + 1 ≤ rn p (k + i + 1) := by
  intro i
  induction i with
  | zero =>
    intro h
    have h0 : p k = true := h 0 (by omega)
    show 0 + 1 ≤ rn p (k + 1)
    rw [rn_succ, if_pos h0]; omega
  | succ i ih =>
    intro h
    have := ih (fun j hj => h j (by omega))
    rw [rn_succ, if_pos (h (i + 1) (by omega))]
    have e : k + (i + 1) = k + i + 1 := by omega
    rw [e]
    omega
theorem mx_ge (p : Nat → Bool) {d : Nat} : ∀ {N : Nat}, d ≤ N → rn p d ≤ mx p N := by
  intro N
  induction N with
  | zero => intro h; rw [show d = 0 by omega]; exact Nat.le_refl _
  | succ N ih =>
    intro h
    rw [mx_succ]
    rcases Nat.lt_or_ge N d with q | q
    · rw [show d = N + 1 by omega]; omega
    · have := ih q; omega
theorem mx_ex (p : Nat → Bool) : ∀ N, ∃ d, d ≤ N ∧ mx p N = rn p d := by
  intro N
  induction N with
  | zero => exact ⟨0, by omega, rfl⟩
  | succ N ih =>
    obtain ⟨d, h1, h2⟩ := ih
    rw [mx_succ]
    rcases Nat.le_total (mx p N) (rn p (N + 1)) with q | q
    · exact ⟨N + 1, by omega, by omega⟩
    · exact ⟨d, by omega, by omega⟩
def xs (x : Int64) : Nat → Int64
  | 0 => x
  | i + 1 => xs x i &&& (((xs x i).toUInt64 >>> ((1 : Int32).toInt64.toUInt64 &&& Int64.toUInt64 63)).toInt64)
theorem xs_succ (x : Int64) (i : Nat) : xs x (i + 1) = xs x i &&& (((xs x i).toUInt64 >>> ((1 : Int32).toInt64.toUInt64 &&& Int64.toUInt64 63)).toInt64) := rfl
theorem xs_bit (x : Int64) : ∀ i k, tb (xs x i) k = true ↔ ∀ j, j ≤ i → tb x (k + j) = true := by
  intro i
  induction i with
  | zero =>
    intro k
    constructor
    · intro h j hj; rw [show j = 0 by omega]; exact h
    · intro h; exact h 0 (by omega)
  | succ i ih =>
    intro k
    rw [xs_succ, tb_and, show (1 : Int32) = nI 1 from rfl, tb_ushr (by decide), Bool.and_eq_true, ih, ih]
    constructor
    · rintro ⟨h1, h2⟩ j hj
      rcases Nat.lt_or_ge i j with q | q
      · have := h2 i (by omega)
        rw [show k + j = 1 + k + i by omega]; exact this
      · exact h1 j q
    · intro h
      exact ⟨fun j hj => h j (by omega), fun j hj => by rw [show 1 + k + j = k + (j + 1) by omega]; exact h (j + 1) (by omega)⟩
theorem xs_zero {x : Int64} {N : Nat} (hN : ∀ k, N ≤ k → tb x k = false) (i : Nat) : xs x i = 0 ↔ mx (tb x) N ≤ i := by
  constructor
  · intro h
    obtain ⟨d, h1, h2⟩ := mx_ex (tb x) N
    rcases Nat.lt_or_ge i (mx (tb x) N) with q | q
    · have h3 := fun j hj => rn_true (tb x) d j (by omega : j < rn (tb x) d)
      have h4 : tb (xs x i) (d - 1 - i) = true := (xs_bit x i _).mpr (fun j hj => by
        have h5 := h3 (i - j) (by omega)
        have h6 := h3 i (by omega)
        rw [show d - 1 - i + j = d - 1 - (i - j) by omega]; exact h5.2)
      rw [h, tb_zero] at h4
      cases h4
    · exact q
  · intro h
    apply tb_ext
    intro k _
    rw [tb_zero]
    cases hb : tb (xs x i) k with
    | false => rfl
    | true =>
      have h1 := (xs_bit x i k).mp hb
      have h2 := rn_ge (tb x) k i h1
      have h3 : k + i < N := by
        rcases Nat.lt_or_ge (k + i) N with q | q
        · exact q
        · have := h1 i (Nat.le_refl _); rw [hN _ q] at this; cases this
      have h4 := mx_ge (tb x) (d := k + i + 1) (N := N) (by omega)
      omega
theorem mx_cong {p q : Nat → Bool} : ∀ {N : Nat}, (∀ k, k < N → p k = q k) → mx p N = mx q N ∧ rn p N = rn q N := by
  intro N
  induction N with
  | zero => intro _; exact ⟨rfl, rfl⟩
  | succ N ih =>
    intro h
    obtain ⟨h1, h2⟩ := ih (fun k hk => h k (by omega))
    rw [mx_succ, mx_succ, rn_succ, rn_succ, h1, h2, h N (by omega)]
    exact ⟨rfl, rfl⟩
theorem longest_eq {x : Int64} {p : Nat → Bool} {N : Nat} (h60 : N ≤ 60) (h : ∀ k, k < 64 → tb x k = (decide (k < N) && p k)) : fX10_longestRow x = some (nI (mx p N)) := by
  have hN : ∀ k, N ≤ k → tb x k = false := fun k hk => by
    by_cases q : k < 64
    · rw [h k q, decide_eq_false (by omega)]; rfl
    · exact tb_ge (by omega)
  have e : mx p N = mx (tb x) N := (mx_cong (fun k hk => by rw [h k (by omega), decide_eq_true hk]; rfl)).1
  have hm := mx_le (tb x) N
  unfold fX10_longestRow
  rw [e]
  have l : loopF fX10_longestRow_L2 (x, (0 : Int32)) = some (nI (mx (tb x) N)) := by
    refine loopF_run (b := fX10_longestRow_L2) (fun i => (xs x i, nI i)) (mx (tb x) N) (fun i hi => ?_) ?_
    · unfold fX10_longestRow_L2
      dsimp only
      rw [if_neg (fun z => by have := (xs_zero hN i).mp z; omega), if_neg (show ¬ (64 : Int32) ≤ nI i from nI_ge (a := i) (b := 64) (by omega) (by decide)), nI_1]
      rfl
    · unfold fX10_longestRow_L2
      dsimp only
      rw [if_pos ((xs_zero hN _).mpr (Nat.le_refl _))]
  rw [l]; rfl
theorem run_loop {b : Int32 × Int32 × Int32 → Option ((Int32 × Int32 × Int32) ⊕ Int32)} (p : Nat → Bool) (N : Nat) (h60 : N ≤ 60) (hs : ∀ d x y, d < N → b (x, y, nI d) = some (.inl (if x < (if p d = true then y + 1 else 0) then (if p d = true then y + 1 else 0) else x, (if p d = true then y + 1 else 0), nI (d + 1)))) (he : ∀ x y, b (x, y, nI N) = some (.inr x)) : loopF b ((0 : Int32), (0 : Int32), (0 : Int32)) = some (nI (mx p N)) := by
  refine loopF_run (b := b) (fun i => (nI (mx p i), nI (rn p i), nI i)) N (fun i hi => ?_) (he _ _)
  have h1 := mx_le p i
  have h2 := rn_le p i
  have e : (if p i = true then nI (rn p i) + 1 else 0) = nI (rn p (i + 1)) := by
    rw [rn_succ]
    split
    · rw [nI_1]
    · rfl
  have h3 := rn_le p (i + 1)
  rw [hs i _ _ hi, e, mx_succ]
  by_cases c : mx p i < rn p (i + 1)
  · rw [if_pos (n_lt c (by omega)), Nat.max_eq_right (by omega)]
  · rw [if_neg (n_nlt (by omega) (by omega)), Nat.max_eq_left (by omega)]
theorem b_quiet : BT_quiet Rel := by
  intro sg M hR p1
  apply bt_q hR
  obtain ⟨hb, h25, h26⟩ := rel_b hR
  generalize sg 1 = b at *
  generalize sg 0 = kb at *
  have hD : cD b ≤ 60 := hb.1.2.1.2
  have hF : cF b ≤ 8 := hb.1.1.2
  unfold fX10_quiet fX11_quiet
  rcases farmer_cases hb kb p1 with ⟨f, hf, rfl, e1, e2⟩ | ⟨e1, e2⟩
  · simp only [e1, e2, i00, i10, if_true]
    have c1 : fX10_longestRow (fX0_daysThere b &&& (gb b 6 f ^^^ (-1))) = some (nI (mx (fun d => !tw b f d) (cD b))) := longest_eq hD (fun k hk => by
      rw [tb_and, tb_not hk, there_eq hb.1 hk]; rfl)
    have l1 : loopF (fX11_quiet_L21 (nI f) M) ((0 : Int32), (0 : Int32), (0 : Int32)) = some (nI (mx (fun d => !tw b f d) (cD b))) := by
      refine run_loop _ _ hD (fun d x y hd => ?_) (fun x y => ?_)
      · unfold fX11_quiet_L21 fX11_quiet_J49
        dsimp only
        rw [many_eq hb, if_neg (n_ge hd hD), felt_eq hb hf hd, nI_1]
        cases tw b f d <;> rfl
      · unfold fX11_quiet_L21
        dsimp only
        rw [many_eq hb, if_pos (ple (by omega))]
    rw [gd_pos (inbn (by omega) (by decide)), nI_clamp (by omega), c1, l1]
    exact qq_ans _
  · simp only [e1, e2, i00, i10, if_true]
    exact qq_ref 1
theorem b_streak : BT_streak Rel := by
  intro sg M hR p1
  apply bt_q hR
  obtain ⟨hb, h25, h26⟩ := rel_b hR
  generalize sg 1 = b at *
  generalize sg 0 = kb at *
  have hD : cD b ≤ 60 := hb.1.2.1.2
  have hF : cF b ≤ 8 := hb.1.1.2
  unfold fX10_streak fX11_streak
  rcases farmer_cases hb kb p1 with ⟨f, hf, rfl, e1, e2⟩ | ⟨e1, e2⟩
  · simp only [e1, e2, i00, i10, if_true]
    obtain ⟨x, x1, x2⟩ := right_eq hb.1 hf
    have c1 : fX10_longestRow x = some (nI (mx (fun d => wd b f d == some (fwB b f d)) (cD b))) := longest_eq hD x2
    have l1 : loopF (fX11_streak_L21 (nI f) M) ((0 : Int32), (0 : Int32), (0 : Int32)) = some (nI (mx (fun d => wd b f d == some (fwB b f d)) (cD b))) := by
      refine run_loop _ _ hD (fun d x y hd => ?_) (fun x y => ?_)
      · unfold fX11_streak_L21 fX11_streak_J49
        dsimp only
        rw [many_eq hb, if_neg (n_ge hd hD), isRight_eq hb h25 h26 hf hd, nI_1]
        cases (wd b f d == some (fwB b f d)) <;> rfl
      · unfold fX11_streak_L21
        dsimp only
        rw [many_eq hb, if_pos (ple (by omega))]
    rw [x1]
    dsimp only [Option.bind]
    rw [c1, l1]
    exact qq_ans _
  · simp only [e1, e2, i00, i10, if_true]
    exact qq_ref 1
theorem b_spell : BT_spell Rel := by
  intro sg M hR p1
  apply bt_q hR
  obtain ⟨hb, h25, h26⟩ := rel_b hR
  generalize sg 1 = b at *
  generalize sg 0 = kb at *
  have hD : cD b ≤ 60 := hb.1.2.1.2
  have hF : cF b ≤ 8 := hb.1.1.2
  unfold fX10_spell fX11_spell
  have c0 : fX10_longestRow (fX0_daysThere b &&& (gl b 10 ^^^ (-1))) = some (nI (mx (fun d => !wetB b d) (cD b))) := longest_eq hD (fun k hk => by
    rw [tb_and, tb_not hk, there_eq hb.1 hk]; rfl)
  have c1 : fX10_longestRow (gl b 10) = some (nI (mx (wetB b) (cD b))) := longest_eq hD (fun k hk => wet_bit hb.1)
  rcases what01 p1 with ⟨h, e3⟩ | ⟨h, e3⟩ | ⟨h, h2, e3⟩
  · simp only [e3, i00, i10, if_true]
    rcases h with rfl | rfl
    · have l1 : loopF (fX11_spell_L22 0 M) ((0 : Int32), (0 : Int32), (0 : Int32)) = some (nI (mx (fun d => !wetB b d) (cD b))) := by
        refine run_loop _ _ hD (fun d x y hd => ?_) (fun x y => ?_)
        · unfold fX11_spell_L22 fX11_spell_J49 fX11_spell_J59
          dsimp only
          rw [many_eq hb, if_neg (n_ge hd hD), isWet_eq hb hd, nI_1]
          cases wetB b d <;> rfl
        · unfold fX11_spell_L22
          dsimp only
          rw [many_eq hb, if_pos (ple (by omega))]
      rw [l1]
      unfold fX10_spell_J49
      rw [c0]
      exact qq_ans _
    · have l1 : loopF (fX11_spell_L22 1 M) ((0 : Int32), (0 : Int32), (0 : Int32)) = some (nI (mx (wetB b) (cD b))) := by
        refine run_loop _ _ hD (fun d x y hd => ?_) (fun x y => ?_)
        · unfold fX11_spell_L22 fX11_spell_J49 fX11_spell_J59
          dsimp only
          rw [many_eq hb, if_neg (n_ge hd hD), isWet_eq hb hd, nI_1]
          cases wetB b d <;> rfl
        · unfold fX11_spell_L22
          dsimp only
          rw [many_eq hb, if_pos (ple (by omega))]
      rw [l1]
      unfold fX10_spell_J49
      rw [c1]
      exact qq_ans _
  · simp only [e3, i00, i10, if_true, if_pos h]
    exact qq_ref 1
  · simp only [e3, i00, i10, if_true, if_neg h, if_neg h2]
    exact qq_ref 1
theorem b_stairs : BT_stairs Rel := by
  intro sg M hR p1 p2 p3
  apply bt_q hR
  obtain ⟨hb, h25, h26⟩ := rel_b hR
  obtain ⟨t1, t2, t3, t4⟩ := hR.2.2.2.2.1
  clear hR
  generalize sg 14 = ty at *
  generalize sg 1 = b at *
  generalize sg 0 = kb at *
  have hD : cD b ≤ 60 := hb.1.2.1.2
  have hF : cF b ≤ 8 := hb.1.1.2
  unfold fX10_stairs fX11_stairs
  rcases farmer_cases hb kb p1 with ⟨f, hf, rfl, e1, e2⟩ | ⟨e1, e2⟩
  · rw [e1, e2, i00, i10]
    rcases noTray_cases p2 with ⟨t, ht, rfl, e3, e4⟩ | ⟨e3, e4⟩
    · rw [e3, e4, i00, i10]
      rcases rng_cases p3 1 999 (lo' := 1) (hi' := 999) rfl rfl with ⟨r1, r2, e5, e6⟩ | ⟨-, e5, e6⟩
      · rw [e5, e6, i00, i10]
        obtain ⟨s1, s2⟩ := t4 t ht
        have eD : (nI (cD b)).toInt = (cD b : Int) := nI_toInt (by omega)
        unfold fX9_isMissing fX9_hasPlaces
        rw [gd_pos (inbn ht (by decide)), gd_pos (inbn ht (by decide)), gd_pos (inbn ht (by decide)), nI_clamp (by omega), ← t2, many_eq hb, hb.1.2.1.1]
        by_cases c4 : ga ty 2 t = -1
        · rw [if_pos c4, if_pos c4]
          exact qq_ref 2
        · rw [if_neg c4, if_neg c4]
          dsimp only [Option.bind]
          have n1 : (ga ty 2 t).toInt ≠ -1 := fun z => c4 (i_ext (z.trans rfl))
          rw [i00, if_neg (show ¬ (0 : Int32) < 0 by decide), if_neg (show ¬ ga ty 2 t < 0 by rw [i_lt, i_0]; omega), show ga ty 2 t - 0 = ga ty 2 t from by apply i_ext; rw [i_sub (by rw [i_0]; omega) (by rw [i_0]; omega), i_0]; omega]
          by_cases c5 : ga ty 2 t < nI (cD b)
          · rw [if_pos c5, if_neg (show ¬ nI (cD b) ≤ ga ty 2 t by rw [i_le]; rw [i_lt] at c5; omega)]
            exact qq_ref 3
          · rw [if_neg c5, if_pos (show nI (cD b) ≤ ga ty 2 t by rw [i_le]; rw [i_lt] at c5; omega)]
            dsimp only
            rw [i10]
            obtain ⟨r, k, l1, l2, hq⟩ := loop_rel (b := fX10_stairs_L80 (nI t) p3 b ty) (c := fX11_stairs_L73 (nI t) M) (fun i s u => s.2 = nI i ∧ u = nI i ∧ ∀ k, k < 64 → tb s.1 k = (decide (k < i) && !decide (gb M 7 (60 * t + k) < p3.toInt64))) (fun r k => (r = .inl () ∧ k = .inl ()) ∨ (∃ x, r = .inr x ∧ k = .inr () ∧ ∀ k, k < 64 → tb x k = (decide (k < cD b) && !decide (gb M 7 (60 * t + k) < p3.toInt64)))) (cD b) (fun i s u hi h => by
                obtain ⟨x, j⟩ := s
                obtain ⟨h1, h2, hx⟩ := h
                dsimp only at h1 hx
                subst h1 h2
                unfold fX10_stairs_L80 fX11_stairs_L73 fX9_at fX11_isFrom lt_
                dsimp only
                rw [hb.1.2.1.1, many_eq hb, if_neg (n_ge hi hD), if_neg (n_ge hi hD), (tr_in ht (show i < 60 by omega)).1, (tr_in ht (show i < 60 by omega)).2, gd_pos (inbn (by omega) (by decide)), gd_pos (inbn (by omega) (by decide)), nI_clamp (by omega), nI_1, t3]
                dsimp only [Option.bind]
                by_cases d1 : gb M 7 (60 * t + i) < 0
                · right
                  rw [if_pos d1, if_pos d1]
                  exact ⟨_, _, rfl, rfl, Or.inl ⟨rfl, rfl⟩⟩
                · rw [if_neg d1, if_neg d1]
                  by_cases d2 : gb M 7 (60 * t + i) ≤ 999
                  · left
                    rw [if_pos d2, if_neg (show ¬ (999 : Int64) < gb M 7 (60 * t + i) by rw [l_lt]; rw [l_le] at d2; omega), i10]
                    by_cases d3 : gb M 7 (60 * t + i) < p3.toInt64
                    · rw [if_pos d3]
                      refine ⟨_, _, rfl, rfl, rfl, rfl, fun k hk => ?_⟩
                      dsimp only
                      rw [hx k hk]
                      by_cases q : k = i
                      · subst q; rw [decide_eq_true d3]; simp
                      · rw [show decide (k < i + 1) = decide (k < i) from decide_eq_decide.mpr (by omega)]
                    · rw [if_neg d3]
                      refine ⟨_, _, rfl, rfl, rfl, rfl, fun k hk => ?_⟩
                      dsimp only
                      rw [tb_or, tb_one (by omega) hk, hx k hk]
                      by_cases q : k = i
                      · subst q; rw [decide_eq_false d3]; simp
                      · rw [show decide (k < i + 1) = decide (k < i) from decide_eq_decide.mpr (by omega), decide_eq_false q, Bool.or_false]
                  · right
                    rw [if_neg d2, if_pos (show (999 : Int64) < gb M 7 (60 * t + i) by rw [l_lt]; rw [l_le] at d2; omega), i00]
                    exact ⟨_, _, rfl, rfl, Or.inl ⟨rfl, rfl⟩⟩) (fun s u h => by
                obtain ⟨x, j⟩ := s
                obtain ⟨h1, h2, hx⟩ := h
                dsimp only at h1 hx
                subst h1 h2
                unfold fX10_stairs_L80 fX11_stairs_L73
                dsimp only
                rw [hb.1.2.1.1, many_eq hb, if_pos (ple (by omega)), if_pos (ple (by omega))]
                exact ⟨_, _, rfl, rfl, Or.inr ⟨x, rfl, rfl, hx⟩⟩) (cD b) 0 ((0 : Int64), (0 : Int32)) (0 : Int32) (by omega) ⟨rfl, rfl, fun k hk => by rw [tb_zero, decide_eq_false (by omega)]; rfl⟩
            rw [l1, l2]
            rcases hq with ⟨rfl, rfl⟩ | ⟨x, rfl, rfl, hx⟩
            · exact qq_ref 5
            · dsimp only [Option.bind, Sum.elim]
              obtain ⟨y, y1, y2⟩ := due_eq hb.1 hf
              rw [gd_pos (inbn (by omega) (by decide)), nI_clamp (by omega), y1]
              have cc : fJ13_bitCount_95d88 ((gb b 6 f &&& (y ^^^ (-1))) &&& x) = nI (ct (fun d => (tw b f d && !due b f d) && !decide (gb M 7 (60 * t + d) < p3.toInt64)) (cD b)) := bc_ct (by omega) (fun k hk => by
                rw [tb_and, tb_and, tb_not hk, y2 k hk, hx k hk]
                show ((tw b f k && _) && _) = _
                cases tw b f k <;> cases due b f k <;> cases decide (k < cD b) <;> rfl)
              have ll : loopF (fX11_stairs_L124 (nI f) (nI t) p3 M) ((0 : Int32), (0 : Int32)) = some (nI (ct (fun d => (tw b f d && !due b f d) && !decide (gb M 7 (60 * t + d) < p3.toInt64)) (cD b))) := by
                refine cnt_loop _ (cD b) (fun d z hd => ?_) (fun z => ?_)
                · unfold fX11_stairs_L124
                  dsimp only
                  rw [many_eq hb, if_neg (n_ge hd hD), felt_eq hb hf hd, shouldFeel_eq hb hf hd, nI_1, (tr_in ht (show d < 60 by omega)).2, gd_pos (inbn (by omega) (by decide)), nI_clamp (by omega)]
                  by_cases d3 : gb M 7 (60 * t + d) < p3.toInt64
                  · rw [if_pos d3, decide_eq_true d3]
                    cases tw b f d <;> cases due b f d <;> rfl
                  · rw [if_neg d3, decide_eq_false d3]
                    cases tw b f d <;> cases due b f d <;> rfl
                · unfold fX11_stairs_L124
                  dsimp only
                  rw [many_eq hb, if_pos (ple (by omega))]
              rw [ll]
              show QQ (some (fX10_answer (fJ13_bitCount_95d88 ((gb b 6 f &&& (y ^^^ (-1))) &&& x)) kb)) _ kb M
              rw [cc]
              exact qq_ans _
      · rw [e5, e6, i10, i00]
        exact qq_ref 1
    · rw [e3, e4, i10, i00]
      exact qq_ref 1
  · rw [e1, e2, i10, i00]
    exact qq_ref 1
