/-! ===== (B) what the bench says ===== -/
def zI (z : Int) : Int32 := Int32.ofInt z
theorem zI_toInt {z : Int} (h1 : -2147483648 ≤ z) (h2 : z < 2147483648) : (zI z).toInt = z := by
  unfold zI
  rw [Int32.toInt_ofInt, show Int32.size = 4294967296 from rfl]
  exact Int.bmod_eq_of_le (by omega) (by omega)
theorem zI_0 : zI 0 = 0 := rfl
/-- the sum of w over those of n that p holds of -/
def sm (w : Nat → Int) (p : Nat → Bool) : Nat → Int
  | 0 => 0
  | n + 1 => sm w p n + (if p n = true then w n else 0)
theorem sm_succ (w : Nat → Int) (p : Nat → Bool) (n : Nat) : sm w p (n + 1) = sm w p n + (if p n = true then w n else 0) := rfl
theorem sm_cong {w w2 : Nat → Int} {p q : Nat → Bool} : ∀ {n : Nat}, (∀ k, k < n → p k = q k) → (∀ k, k < n → w k = w2 k) → sm w p n = sm w2 q n := by
  intro n
  induction n with
  | zero => intro _ _; rfl
  | succ n ih => intro h h2; rw [sm_succ, sm_succ, ih (fun k hk => h k (by omega)) (fun k hk => h2 k (by omega)), h n (by omega), h2 n (by omega)]
theorem sm_rng {w : Nat → Int} {p : Nat → Bool} : ∀ {n : Nat}, (∀ k, k < n → 1 ≤ w k ∧ w k ≤ 64) → 0 ≤ sm w p n ∧ sm w p n ≤ 64 * n := by
  intro n
  induction n with
  | zero => intro _; exact ⟨Int.le_refl 0, Int.le_refl 0⟩
  | succ n ih =>
    intro h
    obtain ⟨a, c⟩ := ih (fun k hk => h k (by omega))
    obtain ⟨d1, d2⟩ := h n (by omega)
    rw [sm_succ]
    split <;> omega
theorem m_bit : ∀ m, m < 256 → ∀ f, f < 8 → ((((nI m).toUInt32 >>> ((nI f).toUInt32 &&& Int32.toUInt32 31)).toInt32) &&& (1 : Int32)) = b1 (m.testBit f) := by decide +kernel
theorem weightOf_eq {b : Rc} (hB : BI b) {m : Nat} (hm : m < 256) : fX0_weightOf (nI m) b = some (zI (sm (wgt b) m.testBit (cF b))) := by
  have hF : cF b ≤ 8 := hB.1.2
  have hw : ∀ f, f < cF b → 1 ≤ wgt b f ∧ wgt b f ≤ 64 := fun f hf => (hB.2.2.1 f hf).2.2.2.2.1
  unfold fX0_weightOf
  have key : ∀ i, i ≤ cF b → itr (fun f (s : Int32) => if m.testBit f = true then s + ga b 5 f else s) 0 i = zI (sm (wgt b) m.testBit i) := by
    intro i
    induction i with
    | zero => intro _; rfl
    | succ i ih =>
      intro hi
      rw [itr_succ, sm_succ, ih (by omega)]
      split
      · apply i_ext
        obtain ⟨a, c⟩ := sm_rng (w := wgt b) (p := m.testBit) (n := i) (fun k hk => hw k (by omega))
        obtain ⟨d1, d2⟩ := hw i (by omega)
        have e1 : (zI (sm (wgt b) m.testBit i)).toInt = sm (wgt b) m.testBit i := zI_toInt (by omega) (by omega)
        have e2 : (ga b 5 i).toInt = wgt b i := rfl
        rw [i_add (by omega) (by omega), e1, e2, zI_toInt (by omega) (by omega)]
      · rw [Int.add_zero]
  rw [loop_for (fun f (s : Int32) => if m.testBit f = true then s + ga b 5 f else s) 0 (cF b) (r := zI (sm (wgt b) m.testBit (cF b)))]
  · rfl
  · intro i hi
    unfold fX0_weightOf_L4 lt_
    dsimp only
    rw [hB.1.1, if_neg (nI_ge hi (by omega)), m_bit m hm i (by omega), nI_1, gd_pos (inbn (by omega) (by decide)), nI_clamp (by omega)]
    cases m.testBit i <;> rfl
  · unfold fX0_weightOf_L4
    dsimp only
    rw [hB.1.1, if_pos (nI_le (Nat.le_refl _) (by omega)), key _ (Nat.le_refl _)]
/-- what comes of the words: te tell, of them ra tell rain -/
def sayV (law : Int32) (w : Nat → Int) (te ra : Nat → Bool) (n : Nat) : Int32 :=
  if ct te n = 0 then -1 else b1 (if law = 0 then decide (ct (fun f => te f && !ra f) n < ct ra n) else if law = 1 then decide (sm w (fun f => te f && !ra f) n < sm w ra n) else if law = 2 then decide (0 < ct ra n) else decide (ct (fun f => te f && !ra f) n = 0))
theorem mk_ct0 {p : Nat → Bool} : ∀ {n : Nat}, mk p n = 0 ↔ ct p n = 0 := by
  intro n
  induction n with
  | zero => exact ⟨fun _ => rfl, fun _ => rfl⟩
  | succ n ih =>
    rw [mk_succ, ct_succ]
    cases h : p n with
    | false => simpa using ih
    | true =>
      simp only [if_true]
      constructor
      · intro e
        have : (mk p n ||| 2 ^ n).testBit n = true := by rw [Nat.testBit_or, Nat.testBit_two_pow_self]; simp
        rw [e] at this
        simp at this
      · intro e; omega
theorem ct_mk {p : Nat → Bool} {n : Nat} (h : n ≤ 8) : ct (mk p n).testBit 8 = ct p n := by
  have e : ct (mk p n).testBit 8 = ct (mk p n).testBit n := ct_cut (fun k hk => by rw [mk_bit]; simp; omega) 8 h
  rw [e]
  exact ct_cong (fun k hk => by rw [mk_bit]; simp [hk])
theorem sm_mk {w : Nat → Int} {p : Nat → Bool} {n : Nat} : sm w (mk p n).testBit n = sm w p n := sm_cong (fun k hk => by rw [mk_bit]; simp [hk]) (fun _ _ => rfl)
theorem mk_sub {te ra : Nat → Bool} {n : Nat} (h : n ≤ 8) : mk te n &&& (255 ^^^ mk ra n) = mk (fun f => te f && !ra f) n := by
  have h1 := mk_256 te h
  have h2 := mk_256 ra h
  apply bits_eq
  · exact Nat.lt_of_le_of_lt Nat.and_le_left h1
  · exact mk_256 _ h
  · intro k hk
    rw [Nat.testBit_and, Nat.testBit_xor, mk_bit, mk_bit, mk_bit, show (255 : Nat) = 2 ^ 8 - 1 from rfl, Nat.testBit_two_pow_sub_one]
    by_cases hn : k < n
    · simp [hn, hk]
    · simp [hn]
theorem nI_0' {m : Nat} (h : m < 256) : nI m = 0 ↔ m = 0 := by
  rw [show (0 : Int32) = nI 0 from rfl, nI_eq (by omega) (by decide)]
theorem bit_b1 (p : Bool) : (if p = true then some (fX10_bit 1) else some (fX10_bit 0) : Option Int32) = some (b1 p) := by cases p <;> rfl
theorem verdict_eq {b : Rc} (hB : BI b) {te ra : Nat → Bool} (law : Int32) : fX0_verdict law (nI (mk te (cF b))) (nI (mk ra (cF b))) b = some (sayV law (wgt b) te ra (cF b)) := by
  have hF : cF b ≤ 8 := hB.1.2
  have t1 := mk_256 te hF
  have t2 := mk_256 ra hF
  have t3 := mk_256 (fun f => te f && !ra f) hF
  unfold fX0_verdict sayV lt_
  dsimp only
  by_cases k0 : ct te (cF b) = 0
  · rw [if_pos k0, if_pos ((nI_0' t1).mpr (mk_ct0.mpr k0))]
  · rw [if_neg k0, if_neg (fun z => k0 (mk_ct0.mp ((nI_0' t1).mp z))), nx_not _ t1 _ t2, mk_sub hF, bc32_all _ t2, bc32_all _ t3, ct_mk hF, ct_mk hF, weightOf_eq hB t2, weightOf_eq hB t3, sm_mk, sm_mk]
    have ca := ct_le (fun f => te f && !ra f) (cF b)
    have cb := ct_le ra (cF b)
    by_cases k1 : law = 0
    · rw [if_pos k1, if_pos k1]
      by_cases k2 : ct (fun f => te f && !ra f) (cF b) < ct ra (cF b)
      · rw [decide_eq_true k2, if_neg (nI_ge k2 (by omega))]; rfl
      · rw [decide_eq_false k2, if_pos (nI_le (by omega) (by omega))]; rfl
    · rw [if_neg k1, if_neg k1]
      by_cases k3 : law = 1
      · rw [if_pos k3, if_pos k3]
        have hw : ∀ f, f < cF b → 1 ≤ wgt b f ∧ wgt b f ≤ 64 := fun f hf => (hB.2.2.1 f hf).2.2.2.2.1
        obtain ⟨a1, a2⟩ := sm_rng (w := wgt b) (p := ra) hw
        obtain ⟨a3, a4⟩ := sm_rng (w := wgt b) (p := fun f => te f && !ra f) hw
        have e1 : (zI (sm (wgt b) ra (cF b))).toInt = sm (wgt b) ra (cF b) := zI_toInt (by omega) (by omega)
        have e2 : (zI (sm (wgt b) (fun f => te f && !ra f) (cF b))).toInt = sm (wgt b) (fun f => te f && !ra f) (cF b) := zI_toInt (by omega) (by omega)
        dsimp only [Option.bind]
        by_cases k2 : sm (wgt b) (fun f => te f && !ra f) (cF b) < sm (wgt b) ra (cF b)
        · rw [decide_eq_true k2, if_neg (by rw [i_le, e1, e2]; omega)]; rfl
        · rw [decide_eq_false k2, if_pos (by rw [i_le, e1, e2]; omega)]; rfl
      · rw [if_neg k3, if_neg k3]
        by_cases k4 : law = 2
        · rw [if_pos k4, if_pos k4]
          by_cases k2 : 0 < ct ra (cF b)
          · rw [decide_eq_true k2, if_neg (fun z => by have := mk_ct0.mp ((nI_0' t2).mp z); omega)]; rfl
          · rw [decide_eq_false k2, if_pos ((nI_0' t2).mpr (mk_ct0.mpr (by omega)))]; rfl
        · rw [if_neg k4, if_neg k4]
          by_cases k2 : ct (fun f => te f && !ra f) (cF b) = 0
          · rw [decide_eq_true k2, if_pos ((nI_0' t3).mpr (mk_ct0.mpr k2))]; rfl
          · rw [decide_eq_false k2, if_neg (fun z => k2 (mk_ct0.mp ((nI_0' t3).mp z)))]; rfl
theorem tn_cases (b : Rc) (t : Nat) (mu : Int32) (f d : Nat) : tn b t mu f d = -1 ∨ tn b t mu f d = 0 ∨ tn b t mu f d = 1 := by
  unfold tn
  split
  · exact Or.inl rfl
  · split
    · exact Or.inl rfl
    · rename_i w _
      cases (w ^^ t.testBit f)
      · exact Or.inr (Or.inl rfl)
      · exact Or.inr (Or.inr rfl)
def teN (b : Rc) (t : Nat) (mu : Int32) (d f : Nat) : Bool := decide (¬ tn b t mu f d = -1)
def raN (b : Rc) (t : Nat) (mu : Int32) (d f : Nat) : Bool := decide (tn b t mu f d = 1)
theorem ct_part {te ra : Nat → Bool} (h : ∀ f, ra f = true → te f = true) : ∀ n, ct te n = ct ra n + ct (fun f => te f && !ra f) n := by
  intro n
  induction n with
  | zero => rfl
  | succ n ih =>
    rw [ct_succ, ct_succ, ct_succ, ih]
    cases h1 : ra n with
    | false => cases h2 : te n <;> simp <;> omega
    | true => rw [h n h1]; simp; omega
theorem sayOf_eq {b M : Rc} {n t : Nat} (hR : RB b M 0 n) (ht : t < 256) (hT : gi M 26 = nI t) {d : Nat} (hd : d ≤ 62) : fX11_sayOf (nI d) M = some (sayV (gi b 12) (wgt b) (teN b t (gi M 25) d) (raN b t (gi M 25) d) (cF b)) := by
  have htell := fun (f : Nat) (hf : f < cF b) => tellOf_eq hR ht hT hf hd
  obtain ⟨hB, h0, h1, h2, hFm, -⟩ := hR
  have hF : cF b ≤ 8 := hB.1.2
  have hw : ∀ f, f < cF b → 1 ≤ wgt b f ∧ wgt b f ≤ 64 := fun f hf => (hB.2.2.1 f hf).2.2.2.2.1
  generalize hte : teN b t (gi M 25) d = te
  generalize hra : raN b t (gi M 25) d = ra
  have hsub : ∀ f, ra f = true → te f = true := by
    intro f h
    rw [← hra] at h
    rw [← hte]
    have := of_decide_eq_true h
    exact decide_eq_true (by rw [this]; decide)
  have hpart := ct_part hsub
  unfold fX11_sayOf
  have hloop : loopF (fX11_sayOf_L10 (nI d) M) ((0 : Int32), (0 : Int32), (0 : Int32), (0 : Int32)) = some (nI (ct ra (cF b)), nI (ct (fun f => te f && !ra f) (cF b)), zI (sm (wgt b) ra (cF b) - sm (wgt b) (fun f => te f && !ra f) (cF b))) := by
    refine loopF_run (fun i => (nI (ct ra i), nI (ct (fun f => te f && !ra f) i), zI (sm (wgt b) ra i - sm (wgt b) (fun f => te f && !ra f) i), nI i)) (cF b) ?_ ?_
    · intro i hi
      unfold fX11_sayOf_L10 lt_
      dsimp only
      have m5 : ga M 0 (10 + 6 * i + 5) = ga b 5 i := by
        have := (hFm i hi).2.2.2.2.2
        rw [← this, Nat.zero_add]
      rw [c0, h0, hB.1.1, if_neg (nI_ge hi (by omega)), htell i hi]
      dsimp only [Option.bind]
      rw [nI_1, fRowk i 5 5 rfl, gd_pos (inbn (k := 10 + 6 * i + 5) (n := 6240) (by omega) (by decide)), gd_pos (inbn (k := 10 + 6 * i + 5) (n := 6240) (by omega) (by decide)), nI_clamp (by omega), m5]
      obtain ⟨a1, a2⟩ := sm_rng (w := wgt b) (p := ra) (n := i) (fun k hk => hw k (by omega))
      obtain ⟨a3, a4⟩ := sm_rng (w := wgt b) (p := fun f => te f && !ra f) (n := i) (fun k hk => hw k (by omega))
      obtain ⟨w1, w2⟩ := hw i hi
      have e1 : (zI (sm (wgt b) ra i - sm (wgt b) (fun f => te f && !ra f) i)).toInt = sm (wgt b) ra i - sm (wgt b) (fun f => te f && !ra f) i := zI_toInt (by omega) (by omega)
      have e2 : (ga b 5 i).toInt = wgt b i := rfl
      rw [ct_succ, ct_succ, sm_succ, sm_succ]
      rcases tn_cases b t (gi M 25) i d with q | q | q
      · have r1 : te i = false := by rw [← hte]; exact decide_eq_false (by rw [q]; exact fun z => z rfl)
        have r2 : ra i = false := by rw [← hra]; exact decide_eq_false (by rw [q]; decide)
        rw [q, if_pos rfl, r1, r2]
        simp
      · have r1 : te i = true := by rw [← hte]; exact decide_eq_true (by rw [q]; decide)
        have r2 : ra i = false := by rw [← hra]; exact decide_eq_false (by rw [q]; decide)
        have e3 : (-(ga b 5 i)).toInt = - wgt b i := by
          rw [Int32.toInt_neg, e2]
          exact Int.bmod_eq_of_le (by omega) (by omega)
        have e4 : zI (sm (wgt b) ra i - sm (wgt b) (fun f => te f && !ra f) i) + -(ga b 5 i) = zI (sm (wgt b) ra i - (sm (wgt b) (fun f => te f && !ra f) i + wgt b i)) := by
          apply i_ext
          rw [i_add (by omega) (by omega), e1, e3, zI_toInt (by omega) (by omega)]
          omega
        rw [q, if_neg (by decide), if_neg (by decide), e4, r1, r2]
        simp [← nI_1]
      · have r1 : te i = true := by rw [← hte]; exact decide_eq_true (by rw [q]; decide)
        have r2 : ra i = true := by rw [← hra]; exact decide_eq_true q
        have e4 : zI (sm (wgt b) ra i - sm (wgt b) (fun f => te f && !ra f) i) + ga b 5 i = zI (sm (wgt b) ra i + wgt b i - sm (wgt b) (fun f => te f && !ra f) i) := by
          apply i_ext
          rw [i_add (by omega) (by omega), e1, e2, zI_toInt (by omega) (by omega)]
          omega
        rw [q, if_neg (by decide), if_pos rfl, e4, r1, r2]
        simp [← nI_1]
    · unfold fX11_sayOf_L10
      dsimp only
      rw [c0, h0, hB.1.1, if_pos (nI_le (Nat.le_refl _) (by omega))]
  rw [hloop]
  dsimp only [Option.bind]
  have ca := ct_le (fun f => te f && !ra f) (cF b)
  have cb := ct_le ra (cF b)
  have hp := hpart (cF b)
  obtain ⟨a1, a2⟩ := sm_rng (w := wgt b) (p := ra) hw
  obtain ⟨a3, a4⟩ := sm_rng (w := wgt b) (p := fun f => te f && !ra f) hw
  have e1 : (zI (sm (wgt b) ra (cF b) - sm (wgt b) (fun f => te f && !ra f) (cF b))).toInt = sm (wgt b) ra (cF b) - sm (wgt b) (fun f => te f && !ra f) (cF b) := zI_toInt (by omega) (by omega)
  have hj : ∀ p : Bool, fX11_sayOf_J182 (b1 p) = some (b1 p) := by intro p; cases p <;> rfl
  unfold sayV
  rw [nI_add, c2, show ga M 0 2 = gi b 12 from h2]
  by_cases k0 : ct te (cF b) = 0
  · rw [if_pos k0, if_pos (by rw [show ct ra (cF b) + ct (fun f => te f && !ra f) (cF b) = 0 by omega]; rfl)]
  · rw [if_neg k0, if_neg (fun z => k0 (by have := (nI_0' (show ct ra (cF b) + ct (fun f => te f && !ra f) (cF b) < 256 by omega)).mp z; omega))]
    by_cases k1 : gi b 12 = 0
    · rw [if_pos k1, if_pos k1]
      by_cases k2 : ct (fun f => te f && !ra f) (cF b) < ct ra (cF b)
      · rw [decide_eq_true k2, if_neg (nI_ge k2 (by omega))]; rfl
      · rw [decide_eq_false k2, if_pos (nI_le (by omega) (by omega))]; rfl
    · rw [if_neg k1, if_neg k1]
      by_cases k3 : gi b 12 = 1
      · rw [if_pos k3, if_pos k3]
        by_cases k2 : sm (wgt b) (fun f => te f && !ra f) (cF b) < sm (wgt b) ra (cF b)
        · rw [decide_eq_true k2, if_neg (by rw [i_le, e1, i_0]; omega)]; rfl
        · rw [decide_eq_false k2, if_pos (by rw [i_le, e1, i_0]; omega)]; rfl
      · rw [if_neg k3, if_neg k3]
        by_cases k4 : gi b 12 = 2
        · rw [if_pos k4, if_pos k4]
          by_cases k2 : 0 < ct ra (cF b)
          · rw [decide_eq_true k2, if_neg (nI_nle k2 (by omega))]; rfl
          · rw [decide_eq_false k2, if_pos (by rw [show ct ra (cF b) = 0 by omega]; decide)]; rfl
        · rw [if_neg k4, if_neg k4]
          by_cases k2 : ct (fun f => te f && !ra f) (cF b) = 0
          · rw [decide_eq_true k2, if_pos (by rw [k2]; rfl)]; rfl
          · rw [decide_eq_false k2, if_neg (fun z => k2 ((nI_0' (by omega)).mp z))]; rfl
