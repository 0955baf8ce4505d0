/-! ===== (B) who tips it, how many would have to turn, how sure it is ===== -/
theorem ra_te {b : Rc} {d f : Nat} (h : ra b d f = true) : te b d f = true := by
  unfold ra wd at h
  unfold te
  cases e : fe b f d with
  | none => rw [e] at h; cases h
  | some k => rfl
theorem mk_and1 {p : Nat → Bool} {n f : Nat} (hn : n ≤ 8) (hf : f < n) : nI (mk p n) &&& nI (2 ^ f) = 0 ↔ p f = false := by
  rw [nx_and, nI_0' (Nat.lt_of_le_of_lt Nat.and_le_left (mk_256 p hn))]
  constructor
  · intro h
    have := congrArg (fun z => Nat.testBit z f) h
    simp only [Nat.testBit_and, mk_bit, Nat.testBit_two_pow_self, Nat.zero_testBit, decide_eq_true hf, Bool.true_and, Bool.and_true] at this
    exact this
  · intro h
    apply Nat.eq_of_testBit_eq
    intro k
    rw [Nat.testBit_and, mk_bit, Nat.testBit_two_pow, Nat.zero_testBit]
    by_cases e : f = k
    · subst e; rw [h]; simp
    · simp [e]
/-- t is a set of those who tell of day d -/
def sub (b : Rc) (d t : Nat) : Prop := t < 256 ∧ ∀ g, t.testBit g = true → g < cF b ∧ te b d g = true
theorem mk_raT {b : Rc} (hF : cF b ≤ 8) {d t : Nat} (h : sub b d t) : nI (mk (ra b d) (cF b)) ^^^ nI t = nI (mk (raT b t d) (cF b)) := by
  rw [nx_xor]
  congr 1
  apply bits_eq
  · exact Nat.xor_lt_two_pow (n := 8) (mk_256 _ hF) h.1
  · exact mk_256 _ hF
  · intro k hk
    rw [Nat.testBit_xor, mk_bit, mk_bit]
    unfold raT
    by_cases hn : k < cF b
    · simp only [decide_eq_true hn, Bool.true_and]
      cases h1 : te b d k with
      | true => simp
      | false =>
        have h2 : ra b d k = false := by
          cases h3 : ra b d k with
          | false => rfl
          | true => rw [ra_te h3] at h1; cases h1
        have h4 : t.testBit k = false := by
          cases h3 : t.testBit k with
          | false => rfl
          | true => rw [(h.2 k h3).2] at h1; cases h1
        rw [h2, h4]; rfl
    · have h4 : t.testBit k = false := by
        cases h3 : t.testBit k with
        | false => rfl
        | true => exact absurd (h.2 k h3).1 hn
      simp [hn, h4]
theorem sub_one {b : Rc} (hF : cF b ≤ 8) {d f : Nat} (hf : f < cF b) (h : te b d f = true) : sub b d (2 ^ f) := by
  refine ⟨Nat.lt_of_lt_of_le (Nat.pow_lt_pow_right (by decide) (show f < 8 by omega)) (by decide), fun g hg => ?_⟩
  rw [Nat.testBit_two_pow] at hg
  have := of_decide_eq_true hg
  subst this
  exact ⟨hf, h⟩
theorem isTurned_eq {b M : Rc} {n t : Nat} (hR : RB b M 0 n) (h25 : gi M 25 = -1) (h26 : gi M 26 = 0) (ht : t < 256) {d : Nat} (hd : d ≤ 62) : fX11_isTurned (nI t) (nI d) M = some (b1 (decide (¬ sayT b t d = say b d)), M) := by
  have hR2 : RB b (si M 26 (nI t)) 0 n := hR
  unfold fX11_isTurned lt_
  rw [say_eq hR h25 h26 hd]
  dsimp only [Option.bind]
  rw [sayT_eq hR2 h25 ht rfl hd]
  dsimp only
  rw [si_si, si_id M 26 h26]
  by_cases q : sayT b t d = say b d
  · rw [if_pos q, decide_eq_false (fun z => z q)]; rfl
  · rw [if_neg q, decide_eq_true q]; rfl
def tip (b : Rc) (d f : Nat) : Bool := te b d f && decide (¬ sayT b (2 ^ f) d = say b d)
theorem tippersOf_eq {b : Rc} (hB : BI b) {d : Nat} (hd : d ≤ 62) : fX0_tippersOf (nI d) b = some (nI (mk (tip b d) (cF b))) := by
  have hF : cF b ≤ 8 := hB.1.2
  unfold fX0_tippersOf
  rw [tellersOf_eq hB hd, believersOf_eq hB hd]
  dsimp only [Option.bind]
  rw [verdict_eq hB]
  dsimp only
  have loop : loopF (fX0_tippersOf_L30 b (nI (mk (te b d) (cF b))) (nI (mk (ra b d) (cF b))) (say b d)) ((0 : Int32), (0 : Int32)) = some (nI (mk (tip b d) (cF b))) := by
    refine loopF_run (fun i => (nI (mk (tip b d) i), nI i)) (cF b) (fun i hi => ?_) ?_
    · unfold fX0_tippersOf_L30 lt_
      dsimp only
      rw [hB.1.1, if_neg (nI_ge hi (by omega)), nx_one i (by omega), nI_1, mk_succ]
      unfold tip
      by_cases q : te b d i = true
      · rw [if_neg (fun z => by rw [(mk_and1 hF hi).mp z] at q; cases q), mk_raT hF (sub_one hF hi q), verdict_eq hB, q]
        dsimp only [Option.bind]
        show (if sayT b (2 ^ i) d = say b d then _ else _) = _
        by_cases q2 : sayT b (2 ^ i) d = say b d
        · rw [if_pos q2, decide_eq_false (fun z => z q2)]; rfl
        · rw [if_neg q2, decide_eq_true q2, nx_or]; rfl
      · have q' : te b d i = false := by cases h : te b d i with
          | true => exact absurd h q
          | false => rfl
        rw [if_pos ((mk_and1 hF hi).mpr q'), q']
        rfl
    · unfold fX0_tippersOf_L30
      dsimp only
      rw [hB.1.1, if_pos (nI_le (Nat.le_refl _) (by omega))]
  exact (congrArg (fun z => Option.bind z some) loop)
theorem te0 {b : Rc} {d : Nat} (hF : cF b ≤ 8) : nI (mk (te b d) (cF b)) = 0 ↔ say b d = -1 := by
  rw [nI_0' (mk_256 _ hF), mk_ct0]
  unfold say sayV
  constructor
  · intro h; rw [if_pos h]
  · intro h
    by_cases q : ct (te b d) (cF b) = 0
    · exact q
    · rw [if_neg q] at h
      generalize (if gi b 12 = 0 then _ else _ : Bool) = z at h
      cases z <;> exact absurd h (by decide)
theorem b_tips : BT_tips Rel := by
  intro sg M hR p1
  apply bt_q hR
  obtain ⟨hb, h25, h26⟩ := rel_b hR
  generalize sg 1 = b at *
  generalize sg 0 = kb at *
  have hD : cD b ≤ 60 := hb.1.2.1.2
  have hF : cF b ≤ 8 := hb.1.1.2
  unfold fX10_tips fX11_tips
  rcases asked_cases p1 with ⟨d, hd, rfl, e1, e2⟩ | ⟨e1, e2⟩
  · simp only [e1, e2, i00, i10, if_true]
    rw [tellersOf_eq hb.1 hd, say_eq hb h25 h26 hd, tippersOf_eq hb.1 hd, show (fun f => (fe b f d).isSome) = te b d from rfl]
    dsimp only [Option.bind]
    by_cases q : say b d = -1
    · rw [if_pos ((te0 hF).mpr q), if_pos q]
      exact qq_ref 6
    · rw [if_neg (fun z => q ((te0 hF).mp z)), if_neg q]
      have loop : loopF (fX11_tips_L33 (nI d)) ((0 : Int32), (0 : Int32), M) = some (nI (mk (tip b d) (cF b)), M) := by
        refine loopF_run (fun i => (nI (mk (tip b d) i), nI i, M)) (cF b) (fun i hi => ?_) ?_
        · unfold fX11_tips_L33 lt_
          dsimp only
          have p8 : 2 ^ i < 256 := Nat.lt_of_lt_of_le (Nat.pow_lt_pow_right (by decide) (show i < 8 by omega)) (by decide)
          have o0 : nI (mk (tip b d) i) ||| (0 : Int32) = nI (mk (tip b d) i) := (nx_or _ 0).trans (by rw [Nat.or_zero])
          rw [frms_eq hb, if_neg (nI_ge hi (by omega)), nx_one i (by omega), nI_1, mk_succ, tell_eq hb h25 h26 hi hd, isTurned_eq hb h25 h26 p8 hd, o0, nx_or]
          unfold tip tv te wd
          cases fe b i d with
          | none => rfl
          | some k =>
            have z2 : ¬ b1 (tw b i k) = -1 := by cases tw b i k <;> decide
            show (if b1 (tw b i k) = -1 then _ else if b1 (decide (¬ sayT b (2 ^ i) d = say b d)) = 0 then _ else _) = _
            rw [if_neg z2]
            cases decide (¬ sayT b (2 ^ i) d = say b d) <;> rfl
        · unfold fX11_tips_L33
          dsimp only
          rw [frms_eq hb, if_pos (nI_le (Nat.le_refl _) (by omega))]
      rw [loop]
      exact qq_ans _
  · simp only [e1, e2, i00, i10, if_true]
    exact qq_ref 1
/-! flips -/
theorem bits_all : ∀ m, m < 256 → loopO fX11_bits_L4 9 ((0 : Int32), nI m) = some (nI (ct m.testBit 8)) := by
  unfold fX11_bits_L4 lt_
  decide +kernel
theorem bits_is {m : Nat} (h : m < 256) : fX11_bits (nI m) = some (nI (ct m.testBit 8)) := by
  unfold fX11_bits
  rw [loopF_of (bits_all m h)]
  rfl
theorem sayV_all {b : Rc} (hB : BI b) {d : Nat} (h : ¬ say b d = -1) : ¬ ct (te b d) (cF b) = 0 := fun z => h (by
  unfold say sayV
  rw [if_pos z])
theorem sm_pos {w : Nat → Int} {p : Nat → Bool} : ∀ {n : Nat}, (∀ k, k < n → 1 ≤ w k) → ¬ ct p n = 0 → 0 < sm w p n := by
  have nn : ∀ n, (∀ k, k < n → 1 ≤ w k) → 0 ≤ sm w p n := by
    intro n
    induction n with
    | zero => intro _; exact Int.le_refl 0
    | succ n ih =>
      intro h
      have := ih (fun k hk => h k (by omega))
      have := h n (by omega)
      rw [sm_succ]
      split <;> omega
  intro n
  induction n with
  | zero => intro _ h; exact absurd rfl h
  | succ n ih =>
    intro h hc
    have h1 := h n (by omega)
    have h2 := nn n (fun k hk => h k (by omega))
    rw [ct_succ] at hc
    rw [sm_succ]
    by_cases q : p n = true
    · rw [if_pos q]; omega
    · rw [if_neg q] at hc ⊢
      have := ih (fun k hk => h k (by omega)) hc
      omega
theorem ct_none {p : Nat → Bool} : ∀ {n : Nat}, (∀ k, k < n → p k = false) → ct p n = 0 := by
  intro n
  induction n with
  | zero => intro _; rfl
  | succ n ih => intro h; rw [ct_succ, ih (fun k hk => h k (by omega)), h n (by omega)]; rfl
theorem sm_none {w : Nat → Int} {p : Nat → Bool} : ∀ {n : Nat}, (∀ k, k < n → p k = false) → sm w p n = 0 := by
  intro n
  induction n with
  | zero => intro _; rfl
  | succ n ih => intro h; rw [sm_succ, ih (fun k hk => h k (by omega)), h n (by omega)]; rfl
/-- there is a set whose turning turns what the bench says -/
theorem turn_any {b : Rc} (hB : BI b) {d : Nat} (h : ¬ say b d = -1) : ∃ t, 1 ≤ t ∧ t < 2 ^ cF b ∧ sub b d t ∧ ¬ sayT b t d = say b d := by
  have hF : cF b ≤ 8 := hB.1.2
  have hc := sayV_all hB h
  have hw : ∀ f, f < cF b → 1 ≤ wgt b f := fun f hf => (hB.2.2.1 f hf).2.2.2.2.1.1
  have hsp := sm_pos hw hc
  rcases say_3 b d with q | q | q
  · exact absurd q h
  · have e : sayT b (mk (fun f => te b d f && !ra b d f) (cF b)) d = 1 := by
      have e1 : sayT b (mk (fun f => te b d f && !ra b d f) (cF b)) d = sayV (gi b 12) (wgt b) (te b d) (te b d) (cF b) := by
        unfold sayT
        refine sayV_cong (fun _ _ => rfl) (fun f hf => ?_)
        unfold raT
        rw [mk_bit, decide_eq_true hf]
        cases te b d f <;> cases ra b d f <;> rfl
      have z1 : ct (fun f => te b d f && !te b d f) (cF b) = 0 := ct_none (fun k _ => by simp)
      have z2 : sm (wgt b) (fun f => te b d f && !te b d f) (cF b) = 0 := sm_none (fun k _ => by simp)
      rw [e1]
      unfold sayV
      rw [if_neg hc, z1, z2, decide_eq_true (show 0 < ct (te b d) (cF b) by omega), decide_eq_true hsp]
      simp
      rfl
    refine ⟨_, ?_, mk_lt _ _, ⟨mk_256 _ hF, fun g hg => ?_⟩, by rw [e, q]; decide⟩
    · rcases Nat.eq_zero_or_pos (mk (fun f => te b d f && !ra b d f) (cF b)) with z | z
      · rw [z, sayT_0, q] at e; exact absurd e (by decide)
      · exact z
    · rw [mk_bit] at hg
      simp at hg
      exact ⟨hg.1, hg.2.1⟩
  · have e : sayT b (mk (ra b d) (cF b)) d = 0 := by
      have e1 : sayT b (mk (ra b d) (cF b)) d = sayV (gi b 12) (wgt b) (te b d) (fun _ => false) (cF b) := by
        unfold sayT
        refine sayV_cong (fun _ _ => rfl) (fun f hf => ?_)
        unfold raT
        rw [mk_bit, decide_eq_true hf]
        cases te b d f <;> cases ra b d f <;> rfl
      have z1 : ct (fun _ => false) (cF b) = 0 := ct_none (fun k _ => rfl)
      have z2 : sm (wgt b) (fun _ => false) (cF b) = 0 := sm_none (fun k _ => rfl)
      have z3 : ct (fun f => te b d f && !(fun _ => false) f) (cF b) = ct (te b d) (cF b) := ct_cong (fun k _ => by simp)
      have z4 : sm (wgt b) (fun f => te b d f && !(fun _ => false) f) (cF b) = sm (wgt b) (te b d) (cF b) := sm_cong (fun k _ => by simp) (fun _ _ => rfl)
      rw [e1]
      unfold sayV
      rw [if_neg hc, z3, z4, z1, z2, decide_eq_false (show ¬ ct (te b d) (cF b) < 0 by omega), decide_eq_false (show ¬ sm (wgt b) (te b d) (cF b) < 0 by omega), decide_eq_false hc]
      simp
      rfl
    refine ⟨_, ?_, mk_lt _ _, ⟨mk_256 _ hF, fun g hg => ?_⟩, by rw [e, q]; decide⟩
    · rcases Nat.eq_zero_or_pos (mk (ra b d) (cF b)) with z | z
      · rw [z, sayT_0, q] at e; exact absurd e (by decide)
      · exact z
    · rw [mk_bit] at hg
      simp at hg
      exact ⟨hg.1, ra_te hg.2⟩
theorem sub_iff {b : Rc} (hF : cF b ≤ 8) {d t : Nat} (ht : t < 256) : nI t &&& (nI (mk (te b d) (cF b)) ^^^ (-1)) = 0 ↔ sub b d t := by
  rw [nx_not _ ht _ (mk_256 _ hF), nI_0' (Nat.lt_of_le_of_lt Nat.and_le_left ht)]
  constructor
  · intro h
    refine ⟨ht, fun g hg => ?_⟩
    have hg8 : g < 8 := by
      rcases Nat.lt_or_ge g 8 with q | q
      · exact q
      · have : 2 ^ 8 ≤ 2 ^ g := Nat.pow_le_pow_right (by decide) q
        rw [Nat.testBit_lt_two_pow (by omega)] at hg
        cases hg
    have := congrArg (fun z => Nat.testBit z g) h
    simp only [Nat.testBit_and, Nat.testBit_xor, mk_bit, Nat.zero_testBit, show (255 : Nat) = 2 ^ 8 - 1 from rfl, Nat.testBit_two_pow_sub_one, hg, Bool.true_and, decide_eq_true hg8] at this
    simp at this
    exact this
  · intro h
    apply Nat.eq_of_testBit_eq
    intro k
    rw [Nat.testBit_and, Nat.testBit_xor, mk_bit, Nat.zero_testBit, show (255 : Nat) = 2 ^ 8 - 1 from rfl, Nat.testBit_two_pow_sub_one]
    cases hk : t.testBit k with
    | false => rfl
    | true =>
      obtain ⟨a, c⟩ := h.2 k hk
      rw [c]
      simp [a, show k < 8 by omega]
theorem nx_one8 {n : Nat} (h : n ≤ 8) : (1 : Int32) <<< (nI n &&& 31) = nI (2 ^ n) := nx_one n (by omega)
theorem b_flips : BT_flips Rel := by
  intro sg M hR p1
  apply bt_q hR
  obtain ⟨hb, h25, h26⟩ := rel_b hR
  generalize sg 1 = b at *
  generalize sg 0 = kb at *
  have hD : cD b ≤ 60 := hb.1.2.1.2
  have hF : cF b ≤ 8 := hb.1.1.2
  unfold fX10_flips fX11_flips
  rcases asked_cases p1 with ⟨d, hd, rfl, e1, e2⟩ | ⟨e1, e2⟩
  · simp only [e1, e2, i00, i10, if_true]
    have p8 : 2 ^ cF b ≤ 256 := Nat.pow_le_pow_right (by decide) hF
    have pp : 1 ≤ 2 ^ cF b := Nat.one_le_two_pow
    unfold fX0_fewestTurned
    rw [tellersOf_eq hb.1 hd, believersOf_eq hb.1 hd, say_eq hb h25 h26 hd]
    dsimp only [Option.bind]
    rw [verdict_eq hb.1]
    dsimp only
    have tell : loopF (fX11_flips_L33 (nI d) M) ((0 : Int32), (0 : Int32)) = some (nI (mk (te b d) (cF b))) := by
      refine loopF_run (fun i => (nI (mk (te b d) i), nI i)) (cF b) (fun i hi => ?_) ?_
      · unfold fX11_flips_L33 lt_
        dsimp only
        have o0 : nI (mk (te b d) i) ||| (0 : Int32) = nI (mk (te b d) i) := (nx_or _ 0).trans (by rw [Nat.or_zero])
        rw [frms_eq hb, if_neg (nI_ge hi (by omega)), nx_one i (by omega), nI_1, mk_succ, tell_eq hb h25 h26 hi hd, o0, nx_or]
        unfold tv te wd
        cases fe b i d with
        | none => rfl
        | some k =>
          have z2 : ¬ b1 (tw b i k) = -1 := by cases tw b i k <;> decide
          show (if b1 (tw b i k) = -1 then _ else _) = _
          rw [if_neg z2]; rfl
      · unfold fX11_flips_L33
        dsimp only
        rw [frms_eq hb, if_pos (nI_le (Nat.le_refl _) (by omega))]
    rw [tell]
    dsimp only
    have hwd : (fun f => wd b f d == some true) = ra b d := rfl
    have hte : (fun f => (fe b f d).isSome) = te b d := rfl
    rw [hwd, hte]
    by_cases q : say b d = -1
    · rw [if_pos q]
      have hc0 : ct (te b d) (cF b) = 0 := mk_ct0.mp ((nI_0' (mk_256 _ hF)).mp ((te0 hF).mpr q))
      obtain ⟨r, l1, l2⟩ := loop_one (b := fX0_fewestTurned_L30 b (nI (mk (te b d) (cF b))) (nI (mk (ra b d) (cF b))) (say b d)) (fun k s => s = ((-1 : Int32), nI (1 + k))) (fun r => r = -1) (2 ^ cF b - 1) (fun k s hk h => by
        subst h
        left
        unfold fX0_fewestTurned_L30 lt_
        dsimp only
        have hns : ¬ sub b d (1 + k) := fun z => by
          obtain ⟨g, hg⟩ := Nat.exists_testBit_of_ne_zero (show 1 + k ≠ 0 by omega)
          obtain ⟨a, c⟩ := z.2 g hg
          have := mk_ct0.mpr hc0
          have e := congrArg (fun y => Nat.testBit y g) this
          simp only [mk_bit, decide_eq_true a, c, Nat.zero_testBit] at e
          cases e
        rw [hb.1.1.1, nx_one8 hF, if_neg (nI_ge (show 1 + k < 2 ^ cF b by omega) (by omega)), if_neg (fun z => hns ((sub_iff hF (by omega)).mp z)), nI_1]
        exact ⟨_, rfl, rfl⟩) (fun s h => by
        subst h
        unfold fX0_fewestTurned_L30
        dsimp only
        rw [hb.1.1.1, nx_one8 hF, if_pos (nI_le (by omega) (by omega))]
        exact ⟨_, rfl, rfl⟩) (2 ^ cF b - 1) 0 ((-1 : Int32), (1 : Int32)) (by omega) rfl
      subst l2
      have l1' : loopF (fX0_fewestTurned_L30 b (nI (mk (te b d) (cF b))) (nI (mk (ra b d) (cF b))) (sayV (gi b 12) (wgt b) (te b d) (ra b d) (cF b))) ((-1 : Int32), (1 : Int32)) = some (-1) := l1
      rw [l1']
      exact qq_ref 6
    · rw [if_neg q]
      obtain ⟨r, k, l1, l2, l3, l4⟩ := loop_rel (b := fX0_fewestTurned_L30 b (nI (mk (te b d) (cF b))) (nI (mk (ra b d) (cF b))) (say b d)) (c := fX11_flips_L75 (nI d) (nI (mk (te b d) (cF b)))) (fun k s t => ∃ x y : Int32, s = (x, nI (1 + k)) ∧ t = (y, nI (1 + k), M) ∧ ((x = -1 ∧ y = 8 ∧ ∀ u, 1 ≤ u → u < 1 + k → sub b d u → sayT b u d = say b d) ∨ (x = y ∧ ∃ v, v ≤ 8 ∧ x = nI v))) (fun r k => k = (r, M) ∧ ¬ r = -1) (2 ^ cF b - 1) (fun k s t hk h => by
        obtain ⟨x, y, rfl, rfl, h⟩ := h
        have ht : 1 + k < 256 := by omega
        unfold fX0_fewestTurned_L30 fX11_flips_L75 fX0_fewestTurned_J70 lt_
        dsimp only
        rw [hb.1.1.1, frms_eq hb, nx_one8 hF, if_neg (nI_ge (show 1 + k < 2 ^ cF b by omega) (by omega)), if_neg (nI_ge (show 1 + k < 2 ^ cF b by omega) (by omega)), nI_1, bc32_all _ ht, bits_is ht, isTurned_eq hb h25 h26 ht hd]
        dsimp only [Option.bind]
        left
        have cle := ct_le (1 + k).testBit 8
        by_cases hs : sub b d (1 + k)
        · rw [if_pos ((sub_iff hF ht).mpr hs), if_pos ((sub_iff hF ht).mpr hs), mk_raT hF hs, verdict_eq hb.1]
          dsimp only
          show ∃ s' t', (if x = -1 then (if sayT b (1 + k) d = say b d then _ else _) else (if x ≤ _ then _ else (if sayT b (1 + k) d = say b d then _ else _))) = _ ∧ (if y ≤ _ then _ else (if b1 (decide (¬ sayT b (1 + k) d = say b d)) = 0 then _ else _)) = _ ∧ _
          rcases h with ⟨rfl, rfl, hu⟩ | ⟨rfl, v, hv, rfl⟩
          · rw [if_pos rfl]
            by_cases hq : sayT b (1 + k) d = say b d
            · rw [if_pos hq, decide_eq_false (fun z => z hq), if_pos (show b1 false = 0 from rfl)]
              refine ⟨_, _, rfl, ?_, -1, 8, rfl, rfl, Or.inl ⟨rfl, rfl, fun u u1 u2 us => ?_⟩⟩
              · split <;> rfl
              · by_cases e : u = 1 + k
                · subst e; exact hq
                · exact hu u u1 (by omega) us
            · rw [if_neg hq, decide_eq_true hq, if_neg (show ¬ b1 true = 0 by decide)]
              by_cases c8 : ct (1 + k).testBit 8 = 8
              · rw [c8, if_pos (show (8 : Int32) ≤ nI 8 by decide)]
                exact ⟨_, _, rfl, rfl, nI 8, 8, rfl, rfl, Or.inr ⟨rfl, 8, Nat.le_refl _, rfl⟩⟩
              · rw [if_neg (show ¬ (8 : Int32) ≤ nI _ from nI_ge (a := ct (1 + k).testBit 8) (b := 8) (by omega) (by decide))]
                exact ⟨_, _, rfl, rfl, _, _, rfl, rfl, Or.inr ⟨rfl, _, cle, rfl⟩⟩
          · rw [if_neg (nI_m1 (by omega))]
            by_cases hc : nI v ≤ nI (ct (1 + k).testBit 8)
            · rw [if_pos hc, if_pos hc]
              exact ⟨_, _, rfl, rfl, _, _, rfl, rfl, Or.inr ⟨rfl, v, hv, rfl⟩⟩
            · rw [if_neg hc, if_neg hc]
              by_cases hq : sayT b (1 + k) d = say b d
              · rw [if_pos hq, decide_eq_false (fun z => z hq), if_pos (show b1 false = 0 from rfl)]
                exact ⟨_, _, rfl, rfl, _, _, rfl, rfl, Or.inr ⟨rfl, v, hv, rfl⟩⟩
              · rw [if_neg hq, decide_eq_true hq, if_neg (show ¬ b1 true = 0 by decide)]
                exact ⟨_, _, rfl, rfl, _, _, rfl, rfl, Or.inr ⟨rfl, _, cle, rfl⟩⟩
        · rw [if_neg (fun z => hs ((sub_iff hF ht).mp z)), if_neg (fun z => hs ((sub_iff hF ht).mp z))]
          refine ⟨_, _, rfl, rfl, x, y, rfl, rfl, ?_⟩
          rcases h with ⟨h1, h2, hu⟩ | h
          · left
            refine ⟨h1, h2, fun u u1 u2 us => ?_⟩
            by_cases e : u = 1 + k
            · subst e; exact absurd us hs
            · exact hu u u1 (by omega) us
          · exact Or.inr h) (fun s t h => by
        obtain ⟨x, y, rfl, rfl, h⟩ := h
        unfold fX0_fewestTurned_L30 fX11_flips_L75
        dsimp only
        rw [hb.1.1.1, frms_eq hb, nx_one8 hF, if_pos (nI_le (show 2 ^ cF b ≤ 1 + (2 ^ cF b - 1) by omega) (by omega)), if_pos (nI_le (show 2 ^ cF b ≤ 1 + (2 ^ cF b - 1) by omega) (by omega))]
        rcases h with ⟨h1, h2, hu⟩ | ⟨rfl, v, hv, rfl⟩
        · obtain ⟨t, t1, t2, t3, t4⟩ := turn_any hb.1 q
          exact absurd (hu t t1 (by omega) t3) t4
        · exact ⟨_, _, rfl, rfl, rfl, nI_m1 (by omega)⟩) (2 ^ cF b - 1) 0 ((-1 : Int32), (1 : Int32)) ((8 : Int32), (1 : Int32), M) (by omega) ⟨-1, 8, rfl, rfl, Or.inl ⟨rfl, rfl, fun u u1 u2 _ => by omega⟩⟩
      subst l3
      have l1' : loopF (fX0_fewestTurned_L30 b (nI (mk (te b d) (cF b))) (nI (mk (ra b d) (cF b))) (sayV (gi b 12) (wgt b) (te b d) (ra b d) (cF b))) ((-1 : Int32), (1 : Int32)) = some r := l1
      rw [l1', l2]
      refine ⟨r, 0, ?_, rfl⟩
      show some (fX10_answerIfAny r kb) = _
      rw [ifAny_eq, if_neg l4]
  · simp only [e1, e2, i00, i10, if_true]
    exact qq_ref 1
/-! how sure -/
def lean_ (b : Rc) (d i : Nat) : Int := sm (wgt b) (ra b d) i - sm (wgt b) (fun f => te b d f && !ra b d f) i
theorem wg {b : Rc} (hB : BI b) : ∀ f, f < cF b → 1 ≤ wgt b f ∧ wgt b f ≤ 64 := fun f hf => (hB.2.2.1 f hf).2.2.2.2.1
theorem lean_rng {b : Rc} (hB : BI b) (d : Nat) {i : Nat} (hi : i ≤ cF b) : -512 ≤ lean_ b d i ∧ lean_ b d i ≤ 512 := by
  have hF : cF b ≤ 8 := hB.1.2
  obtain ⟨a1, a2⟩ := sm_rng (w := wgt b) (p := ra b d) (n := i) (fun k hk => wg hB k (by omega))
  obtain ⟨a3, a4⟩ := sm_rng (w := wgt b) (p := fun f => te b d f && !ra b d f) (n := i) (fun k hk => wg hB k (by omega))
  unfold lean_
  omega
theorem leaning_eq {b : Rc} (hB : BI b) {d : Nat} (hd : d ≤ 62) : fX0_leaning (nI d) b = some (zI (lean_ b d (cF b))) := by
  have hF : cF b ≤ 8 := hB.1.2
  obtain ⟨a1, a2⟩ := sm_rng (w := wgt b) (p := ra b d) (n := cF b) (wg hB)
  obtain ⟨a3, a4⟩ := sm_rng (w := wgt b) (p := fun f => te b d f && !ra b d f) (n := cF b) (wg hB)
  unfold fX0_leaning
  rw [believersOf_eq hB hd, tellersOf_eq hB hd, show (fun f => (fe b f d).isSome) = te b d from rfl, show (fun f => wd b f d == some true) = ra b d from rfl]
  dsimp only [Option.bind]
  rw [weightOf_eq hB (mk_256 _ hF), nx_not _ (mk_256 _ hF) _ (mk_256 _ hF), mk_sub hF, weightOf_eq hB (mk_256 _ hF), sm_mk, sm_mk]
  dsimp only
  congr 1
  unfold lean_
  apply i_ext
  have e1 : (zI (sm (wgt b) (ra b d) (cF b))).toInt = sm (wgt b) (ra b d) (cF b) := zI_toInt (by omega) (by omega)
  have e2 : (zI (sm (wgt b) (fun f => te b d f && !ra b d f) (cF b))).toInt = sm (wgt b) (fun f => te b d f && !ra b d f) (cF b) := zI_toInt (by omega) (by omega)
  rw [i_sub (by omega) (by omega), e1, e2, zI_toInt (by omega) (by omega)]
theorem zI_add {x : Int} {y : Int32} (h1 : -1000 ≤ x) (h2 : x ≤ 1000) (h3 : -1000 ≤ y.toInt) (h4 : y.toInt ≤ 1000) : zI x + y = zI (x + y.toInt) := by
  apply i_ext
  have e1 : (zI x).toInt = x := zI_toInt (by omega) (by omega)
  rw [i_add (by omega) (by omega), e1, zI_toInt (by omega) (by omega)]
theorem zI_sub {x : Int} {y : Int32} (h1 : -1000 ≤ x) (h2 : x ≤ 1000) (h3 : -1000 ≤ y.toInt) (h4 : y.toInt ≤ 1000) : zI x + -y = zI (x - y.toInt) := by
  have e : (-y).toInt = -y.toInt := i_neg (by omega)
  rw [zI_add h1 h2 (by omega) (by omega), e]
  congr 1
theorem lean_succ (b : Rc) (d i : Nat) : lean_ b d (i + 1) = lean_ b d i + (match wd b i d with | none => 0 | some true => wgt b i | some false => - wgt b i) := by
  unfold lean_
  rw [sm_succ, sm_succ]
  have h1 : ra b d i = (wd b i d == some true) := rfl
  have h2 : te b d i = (wd b i d).isSome := by
    unfold te wd
    cases fe b i d <;> rfl
  rw [h1, h2]
  cases wd b i d with
  | none =>
    simp
  | some w =>
    cases w
    · simp
      omega
    · simp
      omega
theorem b_sure : BT_sure Rel := by
  intro sg M hR p1
  apply bt_q hR
  obtain ⟨hb, h25, h26⟩ := rel_b hR
  generalize sg 1 = b at *
  generalize sg 0 = kb at *
  have hD : cD b ≤ 60 := hb.1.2.1.2
  have hF : cF b ≤ 8 := hb.1.1.2
  unfold fX10_sure fX11_sure
  rcases asked_cases p1 with ⟨d, hd, rfl, e1, e2⟩ | ⟨e1, e2⟩
  · simp only [e1, e2, i00, i10, if_true]
    rw [tellersOf_eq hb.1 hd, say_eq hb h25 h26 hd, leaning_eq hb.1 hd, show (fun f => (fe b f d).isSome) = te b d from rfl]
    dsimp only [Option.bind]
    by_cases q : say b d = -1
    · rw [if_pos ((te0 hF).mpr q), if_pos q]
      exact qq_ref 6
    · rw [if_neg (fun z => q ((te0 hF).mp z)), if_neg q]
      have loop : loopF (fX11_sure_L33 (nI d) M) ((0 : Int32), (0 : Int32)) = some (zI (lean_ b d (cF b))) := by
        refine loopF_run (fun i => (zI (lean_ b d i), nI i)) (cF b) (fun i hi => ?_) ?_
        · unfold fX11_sure_L33 lt_
          dsimp only
          obtain ⟨r1, r2⟩ := lean_rng hb.1 d (i := i) (by omega)
          obtain ⟨w1, w2⟩ := wg hb.1 i hi
          have m5 := (fr_eq hb hi).2.2.2.2.2
          have e2 : (ga b 5 i).toInt = wgt b i := rfl
          rw [frms_eq hb, if_neg (nI_ge hi (by omega)), nI_1, tell_eq hb h25 h26 hi hd, fRowk i 5 5 rfl, gd_pos (inbn (k := 10 + 6 * i + 5) (n := 6240) (by omega) (by decide)), gd_pos (inbn (k := 10 + 6 * i + 5) (n := 6240) (by omega) (by decide)), nI_clamp (by omega), m5, lean_succ]
          dsimp only [Option.bind]
          unfold tv
          cases wd b i d with
          | none => rw [if_pos rfl, Int32.add_zero, Int.add_zero]
          | some w =>
            cases w
            · rw [if_neg (show ¬ b1 false = -1 by decide), if_neg (show ¬ b1 false = 1 by decide), zI_sub (by omega) (by omega) (by omega) (by omega), e2]
              rfl
            · rw [if_neg (show ¬ b1 true = -1 by decide), if_pos (show b1 true = 1 from rfl), zI_add (by omega) (by omega) (by omega) (by omega), e2]
        · unfold fX11_sure_L33
          dsimp only
          rw [frms_eq hb, if_pos (nI_le (Nat.le_refl _) (by omega))]
      rw [loop]
      exact qq_ans _
  · simp only [e1, e2, i00, i10, if_true]
    exact qq_ref 1
theorem wed_in {b M : Rc} {n : Nat} (hb : RB b M 0 n) (h25 : gi M 25 = -1) (h26 : gi M 26 = 0) {d : Nat} (hd : d ≤ 62) (x y : Int32) : loopF (fX11_wedding_L34 M (x, y, nI d)) ((0 : Int32), (0 : Int32)) = some (zI (-(lean_ b d (cF b)))) := by
  have hF : cF b ≤ 8 := hb.1.1.2
  refine loopF_run (fun i => (zI (-(lean_ b d i)), nI i)) (cF b) (fun i hi => ?_) ?_
  · unfold fX11_wedding_L34 lt_
    dsimp only
    obtain ⟨r1, r2⟩ := lean_rng hb.1 d (i := i) (by omega)
    obtain ⟨w1, w2⟩ := wg hb.1 i hi
    have m5 := (fr_eq hb hi).2.2.2.2.2
    have e2 : (ga b 5 i).toInt = wgt b i := rfl
    rw [frms_eq hb, if_neg (nI_ge hi (by omega)), nI_1, tell_eq hb h25 h26 hi hd, fRowk i 5 5 rfl, gd_pos (inbn (k := 10 + 6 * i + 5) (n := 6240) (by omega) (by decide)), gd_pos (inbn (k := 10 + 6 * i + 5) (n := 6240) (by omega) (by decide)), nI_clamp (by omega), m5, lean_succ]
    dsimp only [Option.bind]
    unfold tv
    cases wd b i d with
    | none => rw [if_pos rfl, Int32.add_zero, Int.add_zero]
    | some w =>
      cases w
      · rw [if_neg (show ¬ b1 false = -1 by decide), if_pos (show b1 false = 0 from rfl), zI_add (by omega) (by omega) (by omega) (by omega), e2]
        dsimp only
        rw [show -(lean_ b d i) + wgt b i = -(lean_ b d i + -wgt b i) by omega]
      · rw [if_neg (show ¬ b1 true = -1 by decide), if_neg (show ¬ b1 true = 0 by decide), zI_sub (by omega) (by omega) (by omega) (by omega), e2]
        dsimp only
        rw [show -(lean_ b d i) - wgt b i = -(lean_ b d i + wgt b i) by omega]
  · unfold fX11_wedding_L34
    dsimp only
    rw [frms_eq hb, if_pos (nI_le (Nat.le_refl _) (by omega))]
theorem b_wedding : BT_wedding Rel := by
  intro sg M hR p1 p2
  apply bt_q hR
  obtain ⟨hb, h25, h26⟩ := rel_b hR
  generalize sg 1 = b at *
  generalize sg 0 = kb at *
  have hD : cD b ≤ 60 := hb.1.2.1.2
  have hF : cF b ≤ 8 := hb.1.1.2
  unfold fX10_wedding fX11_wedding
  rcases span_cases p1 p2 with ⟨d, e, hde, he, rfl, rfl, e1, e2⟩ | ⟨e1, e2⟩
  · simp only [e1, e2, i00, i10, if_true]
    rw [nI_1]
    unfold lt_
    obtain ⟨r, k, l1, l2, l3⟩ := loop_rel (b := fX10_wedding_L21 (nI e) b) (c := fX11_wedding_L22 (nI e) M) (fun i s t => ∃ x, x ≤ 62 ∧ s = (nI x, nI (d + 1 + i)) ∧ t = (nI x, zI (-(lean_ b x (cF b))), nI (d + 1 + i))) (fun r k => r = k) (e - d) (fun i s t hi h => by
        obtain ⟨x, hx, rfl, rfl⟩ := h
        unfold fX10_wedding_L21 fX11_wedding_L22
        dsimp only
        rw [if_neg (n_nlt (by omega) (by omega)), if_neg (n_nlt (by omega) (by omega)), leaning_eq hb.1 (by omega), leaning_eq hb.1 hx, wed_in hb h25 h26 (by omega), nI_1]
        dsimp only [Option.bind]
        rw [if_neg (nI_m1 (by omega))]
        obtain ⟨r1, r2⟩ := lean_rng hb.1 x (i := cF b) (by omega)
        obtain ⟨r3, r4⟩ := lean_rng hb.1 (d + 1 + i) (i := cF b) (by omega)
        have z1 : (zI (lean_ b x (cF b))).toInt = lean_ b x (cF b) := zI_toInt (by omega) (by omega)
        have z2 : (zI (lean_ b (d + 1 + i) (cF b))).toInt = lean_ b (d + 1 + i) (cF b) := zI_toInt (by omega) (by omega)
        have z3 : (zI (-(lean_ b x (cF b)))).toInt = -(lean_ b x (cF b)) := zI_toInt (by omega) (by omega)
        have z4 : (zI (-(lean_ b (d + 1 + i) (cF b)))).toInt = -(lean_ b (d + 1 + i) (cF b)) := zI_toInt (by omega) (by omega)
        left
        by_cases q : lean_ b x (cF b) ≤ lean_ b (d + 1 + i) (cF b)
        · have q1 : zI (lean_ b x (cF b)) ≤ zI (lean_ b (d + 1 + i) (cF b)) := by rw [i_le, z1, z2]; exact q
          have q2 : ¬ zI (-(lean_ b x (cF b))) < zI (-(lean_ b (d + 1 + i) (cF b))) := by rw [i_lt, z3, z4]; omega
          rw [if_pos q1, if_neg q2]
          exact ⟨_, _, rfl, rfl, x, hx, rfl, rfl⟩
        · have q1 : ¬ zI (lean_ b x (cF b)) ≤ zI (lean_ b (d + 1 + i) (cF b)) := by rw [i_le, z1, z2]; exact q
          have q2 : zI (-(lean_ b x (cF b))) < zI (-(lean_ b (d + 1 + i) (cF b))) := by rw [i_lt, z3, z4]; omega
          rw [if_neg q1, if_pos q2]
          exact ⟨_, _, rfl, rfl, d + 1 + i, by omega, rfl, rfl⟩) (fun s t h => by
        obtain ⟨x, hx, rfl, rfl⟩ := h
        unfold fX10_wedding_L21 fX11_wedding_L22
        dsimp only
        rw [if_pos (n_lt (by omega) (by omega)), if_pos (n_lt (by omega) (by omega))]
        exact ⟨_, _, rfl, rfl, rfl⟩) (e - d) 0 (nI d, nI (d + 1)) (nI d, zI (-(lean_ b d (cF b))), nI (d + 1)) (by omega) ⟨d, by omega, rfl, rfl⟩
    subst l3
    have l0 : loopF (fX11_wedding_L22 (nI e) M) ((-1 : Int32), (0 : Int32), nI d) = some r := by
      refine loopF_step ?_ l2
      unfold fX11_wedding_L22
      dsimp only
      rw [if_neg (n_nlt (by omega) (by omega)), wed_in hb h25 h26 (by omega), nI_1]
      rfl
    dsimp only
    rw [l1, l0]
    exact qq_ans _
  · simp only [e1, e2, i00, i10, if_true]
    exact qq_ref 1
