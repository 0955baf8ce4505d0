/-! ===== (B) days as bits, and as the reference counts them ===== -/
def fwB (b : Rc) (f d : Nat) : Bool := if elbB b f = true then hailB b d else wetB b d
def dayB (b : Rc) (d : Nat) : Bool := decide (d < cD b)
def clB (b : Rc) (f d : Nat) : Bool := decide (d < cD b ∧ (d : Int) < curZ b f)
def due (b : Rc) (f d : Nat) : Bool := clB b f d && (decide (0 ≤ (d : Int) + lagZ b f) && fwB b f ((d : Int) + lagZ b f).toNat)
theorem i_neg {x : Int32} (h1 : -2147483648 < x.toInt) : (-x).toInt = -x.toInt := by
  have := Int32.toInt_lt x
  rw [Int32.toInt_neg]; exact Int.bmod_eq_of_le (by omega) (by omega)
theorem tb_later {x : Int64} {l : Int32} (h1 : -3 ≤ l.toInt) (h2 : l.toInt ≤ 3) {k : Nat} (hk : k < 64) : tb (fX10_later x l) k = (decide (l.toInt ≤ (k : Int)) && tb x ((k : Int) - l.toInt).toNat) := by
  unfold fX10_later
  by_cases c : (0 : Int32) ≤ l
  · rw [if_pos c]
    rw [i_le, i_0] at c
    have e : l = nI l.toInt.toNat := i_nat c
    have e2 : x <<< (l.toInt64 &&& 63) = x <<< ((nI l.toInt.toNat).toInt64 &&& 63) := by rw [← e]
    rw [e2, tb_shl (by omega) x hk]
    have e3 : ((k : Int) - l.toInt).toNat = k - l.toInt.toNat := by omega
    rw [e3]
    congr 1
    exact decide_eq_decide.mpr (by omega)
  · rw [if_neg c]
    rw [i_le, i_0] at c
    have e : -l = nI (-l.toInt).toNat := by rw [← i_neg (by omega)]; exact i_nat (by rw [i_neg (by omega)]; omega)
    rw [e, tb_ushr (by omega), decide_eq_true (by omega), Bool.true_and]
    congr 1
    omega
theorem feeling_eq {b : Rc} (hB : BI b) {f : Nat} (hf : f < cF b) : ∃ x, fX0_feelingDays (nI f) b = some x ∧ ∀ k, k < 64 → tb x k = clB b f k := by
  have hF : cF b ≤ 8 := hB.1.2
  have hDn : cD b ≤ 60 := hB.2.1.2
  obtain ⟨-, ⟨u1, u2⟩, -⟩ := hB.2.2.1 f hf
  have eD : (nI (cD b)).toInt = (cD b : Int) := nI_toInt (by omega)
  unfold fX0_feelingDays
  rw [gd_pos (inbn (by omega) (by decide)), nI_clamp (by omega), hB.2.1.1]
  refine ⟨_, rfl, fun k hk => ?_⟩
  unfold clB
  by_cases c : ga b 4 f < nI (cD b)
  · rw [if_pos c]
    have c' := i_lt.mp c
    rw [eD] at c'
    unfold curZ at u1 u2
    have e : ga b 4 f = nI (ga b 4 f).toInt.toNat := i_nat u1
    rw [e, tb_first _ (by omega) k hk]
    unfold curZ
    exact decide_eq_decide.mpr (by omega)
  · rw [if_neg c, tb_first _ (by omega) k hk]
    rw [i_lt, eD] at c
    unfold curZ
    exact decide_eq_decide.mpr (by omega)
theorem there_eq {b : Rc} (hB : BI b) {k : Nat} (hk : k < 64) : tb (fX0_daysThere b) k = dayB b k := by
  unfold fX0_daysThere dayB
  rw [hB.2.1.1, tb_first _ (by have := hB.2.1.2; omega) k hk]
theorem elb_eq {b : Rc} (hB : BI b) {f : Nat} (hf : f < 8) : fX0_hasElbow (nI f) b = b1 (elbB b f) := by
  unfold fX0_hasElbow elbB
  have h := hB.2.2.2.2.2.2.2.2
  have e : gi b 13 = nI (gi b 13).toBitVec.toNat := by
    apply Int32.toBitVec_inj.mp
    show _ = BitVec.ofNat 32 _
    simp
  generalize hn : (gi b 13).toBitVec.toNat = n at *
  rw [e, m_bit n h f hf]
  cases n.testBit f <;> rfl
theorem fw_eq {b : Rc} (hB : BI b) {f : Nat} (hf : f < 8) (k : Nat) : tb (fX0_feltWeather (nI f) b) k = fwB b f k := by
  unfold fX0_feltWeather fwB
  rw [elb_eq hB hf]
  cases elbB b f <;> rfl
theorem wet_lt {b : Rc} (hB : BI b) {k : Nat} (h : wetB b k = true) : k < cD b := by
  rcases Nat.lt_or_ge k (cD b) with q | q
  · exact q
  · rw [hB.2.2.2.1 k q] at h; cases h
theorem fw_lt {b : Rc} (hB : BI b) {f k : Nat} (h : fwB b f k = true) : k < cD b := by
  unfold fwB at h
  split at h
  · exact wet_lt hB (hB.2.2.2.2.1 k h)
  · exact wet_lt hB h
theorem due_eq {b : Rc} (hB : BI b) {f : Nat} (hf : f < cF b) : ∃ x, fX0_dueDays (nI f) b = some x ∧ ∀ k, k < 64 → tb x k = due b f k := by
  have hF : cF b ≤ 8 := hB.1.2
  obtain ⟨⟨l1, l2⟩, -⟩ := hB.2.2.1 f hf
  obtain ⟨y, e1, e2⟩ := feeling_eq hB hf
  unfold fX0_dueDays
  rw [gd_pos (inbn (by omega) (by decide)), e1, nI_clamp (by omega)]
  refine ⟨_, rfl, fun k hk => ?_⟩
  have en : (-(ga b 1 f)).toInt = -lagZ b f := by unfold lagZ at *; exact i_neg (by omega)
  rw [tb_and, tb_later (by omega) (by omega) hk, e2 k hk, en, fw_eq hB (by omega)]
  unfold due
  rw [Bool.and_comm]
  congr 2
  · exact decide_eq_decide.mpr (by omega)
  · congr 1; omega
theorem told_eq {b : Rc} (hB : BI b) {f : Nat} (hf : f < cF b) : ∃ x, fX0_toldDays (nI f) b = some x ∧ ∀ k, k < 64 → tb x k = (dayB b k && (fe b f k).isSome) := by
  have hF : cF b ≤ 8 := hB.1.2
  have hDn : cD b ≤ 60 := hB.2.1.2
  obtain ⟨⟨l1, l2⟩, -⟩ := hB.2.2.1 f hf
  obtain ⟨y, e1, e2⟩ := feeling_eq hB hf
  unfold fX0_toldDays
  rw [e1]
  dsimp only [Option.bind]
  rw [gd_pos (inbn (by omega) (by decide)), nI_clamp (by omega)]
  refine ⟨_, rfl, fun k hk => ?_⟩
  rw [tb_and, tb_later l1 l2 hk, there_eq hB hk, Bool.and_comm]
  congr 1
  show (decide (lagZ b f ≤ (k : Int)) && tb y ((k : Int) - lagZ b f).toNat) = _
  unfold fe
  by_cases c : 0 ≤ (k : Int) - lagZ b f ∧ (k : Int) - lagZ b f < cD b ∧ (k : Int) - lagZ b f < curZ b f
  · rw [if_pos c, decide_eq_true (by omega), e2 _ (by omega)]
    unfold clB
    rw [decide_eq_true (by omega)]; rfl
  · rw [if_neg c]
    by_cases c2 : lagZ b f ≤ (k : Int)
    · rw [decide_eq_true c2]
      by_cases c3 : ((k : Int) - lagZ b f).toNat < 64
      · rw [e2 _ c3]; unfold clB; rw [decide_eq_false (by omega)]; rfl
      · rw [tb_ge (by omega)]; rfl
    · rw [decide_eq_false c2]; rfl
theorem rain_eq {b : Rc} (hB : BI b) {f : Nat} (hf : f < cF b) : ∃ x, fX0_rainDays (nI f) b = some x ∧ ∀ k, k < 64 → tb x k = (dayB b k && (wd b f k == some true)) := by
  have hF : cF b ≤ 8 := hB.1.2
  have hDn : cD b ≤ 60 := hB.2.1.2
  obtain ⟨⟨l1, l2⟩, -⟩ := hB.2.2.1 f hf
  obtain ⟨y, e1, e2⟩ := feeling_eq hB hf
  unfold fX0_rainDays
  rw [gd_pos (inbn (by omega) (by decide)), e1, nI_clamp (by omega)]
  refine ⟨_, rfl, fun k hk => ?_⟩
  rw [tb_and, tb_later l1 l2 hk, there_eq hB hk, Bool.and_comm]
  congr 1
  show (decide (lagZ b f ≤ (k : Int)) && tb (gb b 6 f &&& y) ((k : Int) - lagZ b f).toNat) = _
  unfold wd fe
  by_cases c : 0 ≤ (k : Int) - lagZ b f ∧ (k : Int) - lagZ b f < cD b ∧ (k : Int) - lagZ b f < curZ b f
  · rw [if_pos c, decide_eq_true (by omega), tb_and, e2 _ (by omega)]
    unfold clB
    rw [decide_eq_true (by omega)]
    show (true && (tb (gb b 6 f) _ && true)) = (some (tw b f ((k : Int) - lagZ b f).toNat) == some true)
    unfold tw
    cases tb (gb b 6 f) ((k : Int) - lagZ b f).toNat <;> rfl
  · rw [if_neg c]
    by_cases c2 : lagZ b f ≤ (k : Int)
    · rw [decide_eq_true c2]
      by_cases c3 : ((k : Int) - lagZ b f).toNat < 64
      · rw [tb_and, e2 _ c3]; unfold clB; rw [decide_eq_false (by omega), Bool.and_false]; rfl
      · rw [tb_ge (by omega)]; rfl
    · rw [decide_eq_false c2]; rfl
theorem right_eq {b : Rc} (hB : BI b) {f : Nat} (hf : f < cF b) : ∃ x, fX0_rightDays (nI f) b = some x ∧ ∀ k, k < 64 → tb x k = (dayB b k && (wd b f k == some (fwB b f k))) := by
  have hF : cF b ≤ 8 := hB.1.2
  obtain ⟨y, e1, e2⟩ := told_eq hB hf
  obtain ⟨z, e3, e4⟩ := rain_eq hB hf
  unfold fX0_rightDays
  rw [e1, e3]
  refine ⟨_, rfl, fun k hk => ?_⟩
  rw [tb_and, tb_not hk, tb_xor, e2 k hk, e4 k hk, fw_eq hB (by omega)]
  unfold wd
  cases dayB b k with
  | false => rfl
  | true =>
    cases fe b f k with
    | none => rfl
    | some j =>
      show (true && !((true && (some (tw b f j) == some true)) ^^ fwB b f k)) = (true && (some (tw b f j) == some (fwB b f k)))
      cases tw b f j <;> cases fwB b f k <;> rfl
/-! the reference's side -/
theorem n122 (d : Nat) : (122 : Int32) + nI d = nI (122 + d) := by rw [show (122 : Int32) = nI 122 from rfl, nI_add]
theorem isWet_eq {b M : Rc} {n : Nat} (hR : RB b M 0 n) {d : Nat} (hd : d < cD b) : fX11_isWet (nI d) M = some (b1 (wetB b d)) := by
  obtain ⟨hB, -, -, -, -, -, hS, -⟩ := hR
  have hDn : cD b ≤ 60 := hB.2.1.2
  have h := hS d hd
  rw [Nat.zero_add] at h
  have hh := hB.2.2.2.2.1 d
  unfold fX11_isWet
  rw [n122, gd_pos (inbn (by omega) (by decide)), nI_clamp (by omega), h]
  cases hw : wetB b d with
  | true => cases hailB b d <;> rfl
  | false =>
    cases hq : hailB b d with
    | true => rw [hh hq] at hw; cases hw
    | false => rfl
theorem comesFor_eq {b M : Rc} {n : Nat} (hR : RB b M 0 n) {f d : Nat} (hf : f < cF b) (hd : d < cD b) : fX11_comesFor (nI f) (nI d) M = some (b1 (fwB b f d)) := by
  obtain ⟨hB, -, -, -, hFm, -, hS, -⟩ := hR
  have hF : cF b ≤ 8 := hB.1.2
  have hDn : cD b ≤ 60 := hB.2.1.2
  have h := hS d hd
  rw [Nat.zero_add] at h
  have hh := hB.2.2.2.2.1 d
  have h3 := (hFm f hf).2.2.2.1
  rw [Nat.zero_add] at h3
  unfold fX11_comesFor fwB
  rw [n122, fRowk f 3 3 rfl, gd_pos (inbn (by omega) (by decide)), gd_pos (inbn (by omega) (by decide)), nI_clamp (by omega), nI_clamp (by omega), h, h3]
  cases hw : wetB b d with
  | true => cases hailB b d <;> cases elbB b f <;> rfl
  | false =>
    cases hq : hailB b d with
    | true => rw [hh hq] at hw; cases hw
    | false => cases elbB b f <;> rfl
theorem felt_eq {b M : Rc} {n : Nat} (hR : RB b M 0 n) {f d : Nat} (hf : f < cF b) (hd : d < cD b) : fX11_felt (nI f) (nI d) M = some (b1 (tw b f d)) := by
  obtain ⟨hB, -, -, -, -, -, -, hT, -⟩ := hR
  have hF : cF b ≤ 8 := hB.1.2
  have hDn : cD b ≤ 60 := hB.2.1.2
  have h := hT f d hf hd
  rw [Nat.zero_add] at h
  unfold fX11_felt
  rw [tRow, gd_pos (inbn (by omega) (by decide)), nI_clamp (by omega), h]
  cases tw b f d <;> rfl
theorem shouldFeel_eq {b M : Rc} {n : Nat} (hR : RB b M 0 n) {f d : Nat} (hf : f < cF b) (hd : d < cD b) : fX11_shouldFeel (nI f) (nI d) M = some (b1 (due b f d)) := by
  have hday := day_is hR
  have hcome := fun k hk => comesFor_eq hR (f := f) (d := k) hf hk
  obtain ⟨hB, -, -, -, hFm, -⟩ := hR
  have hF : cF b ≤ 8 := hB.1.2
  have hDn : cD b ≤ 60 := hB.2.1.2
  obtain ⟨⟨l1, l2⟩, ⟨cu1, cu2⟩, -⟩ := hB.2.2.1 f hf
  obtain ⟨m0, -, -, -, m4, -⟩ := hFm f hf
  rw [Nat.zero_add] at m0 m4
  have e : (nI d + ga b 1 f).toInt = (d : Int) + lagZ b f := by
    have : (nI d).toInt = (d : Int) := nI_toInt (by omega)
    unfold lagZ at *
    rw [i_add (by omega) (by omega), this]
  unfold fX11_shouldFeel fX11_lagOf
  rw [fRow, gd_pos (inbn (by omega) (by decide)), nI_clamp (by omega), m0]
  dsimp only [Option.bind]
  rw [hday, e]
  unfold due
  by_cases k1 : 0 ≤ (d : Int) + lagZ b f ∧ (d : Int) + lagZ b f < cD b
  · have hk : ((d : Int) + lagZ b f).toNat < cD b := by omega
    have ex : nI d + ga b 1 f = nI ((d : Int) + lagZ b f).toNat := by
      apply i_ext
      rw [e, nI_toInt (by omega)]
      omega
    rw [decide_eq_true k1, if_neg (show ¬ b1 true = 0 by decide), ex, hcome _ hk]
    dsimp only
    rw [decide_eq_true k1.1]
    cases hq : fwB b f ((d : Int) + lagZ b f).toNat with
    | false => rw [if_pos (show b1 false = 0 from rfl)]; rw [Bool.and_false, Bool.and_false]; rfl
    | true =>
      rw [if_neg (by decide)]
      unfold fX11_isWell
      rw [fRowk f 4 4 rfl, gd_pos (inbn (by omega) (by decide)), nI_clamp (by omega), m4]
      have hcur : nI d < (if ga b 4 f = 61 then 1000000 else ga b 4 f) ↔ (d : Int) < curZ b f := by
        rw [i_lt, nI_toInt (by omega)]
        by_cases q : ga b 4 f = 61
        · rw [if_pos q]
          unfold curZ
          rw [q]
          constructor
          · intro _; show _ < (61 : Int); omega
          · intro _; show _ < (1000000 : Int); omega
        · rw [if_neg q]; rfl
      unfold clB
      by_cases k2 : (d : Int) < curZ b f
      · rw [if_pos (hcur.mpr k2), decide_eq_true ⟨hd, k2⟩]; rfl
      · rw [if_neg (fun z => k2 (hcur.mp z)), decide_eq_false (fun z => k2 z.2)]; rfl
  · rw [decide_eq_false k1, if_pos (show b1 false = 0 from rfl)]
    by_cases k2 : 0 ≤ (d : Int) + lagZ b f
    · rw [decide_eq_true k2]
      cases hq : fwB b f ((d : Int) + lagZ b f).toNat with
      | false => rw [Bool.and_false, Bool.and_false]; rfl
      | true => have := fw_lt hB hq; omega
    · rw [decide_eq_false k2, Bool.false_and, Bool.and_false]; rfl
/-- what a farmer tells, as a number -/
def tv (b : Rc) (f d : Nat) : Int32 := match wd b f d with
  | none => -1
  | some w => b1 w
theorem nI_m1 {f : Nat} (h : f < 256) : ¬ nI f = -1 := by
  intro z
  have := congrArg Int32.toInt z
  rw [nI_toInt (by omega)] at this
  rw [show (-1 : Int32).toInt = -1 from rfl] at this
  omega
theorem tn_tv {b : Rc} {f d : Nat} (hf : f < 8) : tn b 0 (-1) f d = tv b f d := by
  unfold tn tv
  rw [if_neg (nI_m1 (by omega))]
  cases wd b f d with
  | none => rfl
  | some w => simp
theorem tell_eq {b M : Rc} {n : Nat} (hR : RB b M 0 n) (h25 : gi M 25 = -1) (h26 : gi M 26 = 0) {f d : Nat} (hf : f < cF b) (hd : d ≤ 62) : fX11_tellOf (nI f) (nI d) M = some (tv b f d) := by
  rw [tellOf_eq hR (t := 0) (by decide) h26 hf hd, h25, tn_tv (by have := hR.1.1.2; omega)]
theorem isRight_eq {b M : Rc} {n : Nat} (hR : RB b M 0 n) (h25 : gi M 25 = -1) (h26 : gi M 26 = 0) {f d : Nat} (hf : f < cF b) (hd : d < cD b) : fX11_isRight (nI f) (nI d) M = some (b1 (wd b f d == some (fwB b f d))) := by
  have hDn : cD b ≤ 60 := hR.1.2.1.2
  unfold fX11_isRight fX11_isRight_J20
  rw [tell_eq hR h25 h26 hf (by omega), comesFor_eq hR hf hd]
  dsimp only [Option.bind]
  unfold tv
  cases wd b f d with
  | none => cases fwB b f d <;> rfl
  | some w => cases w <;> cases fwB b f d <;> rfl
/-! counting -/
theorem cnt_loop {b : Int32 × Int32 → Option ((Int32 × Int32) ⊕ Int32)} (p : Nat → Bool) (N : Nat) (hs : ∀ d x, d < N → b (x, nI d) = some (.inl (x + b1 (p d), nI (d + 1)))) (he : ∀ x, b (x, nI N) = some (.inr x)) : loopF b ((0 : Int32), (0 : Int32)) = some (nI (ct p N)) := by
  refine loopF_run (b := b) (fun i => (nI (ct p i), nI i)) N (fun i hi => ?_) (he _)
  rw [hs i _ hi, ct_succ]
  cases p i
  · simp [b1]
  · rw [if_pos rfl, show nI (ct p i) + b1 true = nI (ct p i + 1) from nI_1 _]
theorem bc_ct {x : Int64} {p : Nat → Bool} {N : Nat} (hN : N ≤ 64) (h : ∀ k, k < 64 → tb x k = (decide (k < N) && p k)) : fJ13_bitCount_95d88 x = nI (ct p N) := by
  rw [bc64]
  congr 1
  have e1 : ct (tb x) 64 = ct (tb x) N := ct_cut (fun k hk => by
    by_cases q : k < 64
    · rw [h k q, decide_eq_false (by omega)]; rfl
    · exact tb_ge (by omega)) 64 hN
  rw [e1]
  exact ct_cong (fun k hk => by rw [h k (by omega), decide_eq_true hk]; rfl)
theorem ple {N : Nat} (hN : N < 2147483648) : nI N ≤ nI N := nI_le (Nat.le_refl _) hN
