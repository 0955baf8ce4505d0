/-! ===== (B) the reference's words on a day ===== -/
theorem nI_mul (a b : Nat) : nI a * nI b = nI (a * b) := by
  unfold nI
  rw [Int32.ofNat_mul]
theorem fRow (f : Nat) : fX11_farmerRow 0 (nI f) = nI (10 + 6 * f) := by
  unfold fX11_farmerRow
  rw [show ((0 : Int32) + 10) = nI 10 from rfl, show (6 : Int32) = nI 6 from rfl, nI_mul, nI_add]
theorem fRowk (f k : Nat) (K : Int32) (hK : K = nI k) : fX11_farmerRow 0 (nI f) + K = nI (10 + 6 * f + k) := by rw [fRow, hK, nI_add]
theorem tRow (f d : Nat) : fX11_twingeRow (nI f) (nI d) = nI (182 + 60 * f + d) := by
  unfold fX11_twingeRow
  rw [show (182 : Int32) = nI 182 from rfl, show (60 : Int32) = nI 60 from rfl, nI_mul, nI_add, nI_add]
theorem mbit : ∀ t, t < 256 → ∀ f, f < 8 → ((nI t >>> (nI f &&& 31)) &&& 1) = b1 (t.testBit f) := by decide +kernel
theorem b1_xor (a c : Bool) : b1 a ^^^ b1 c = b1 (a ^^ c) := by cases a <;> cases c <;> decide
theorem day_is {b M : Rc} {n : Nat} (hR : RB b M 0 n) (x : Int32) : fX11_isDay x M = b1 (decide (0 ≤ x.toInt ∧ x.toInt < cD b)) := by
  obtain ⟨hB, -, h1, -⟩ := hR
  have hD : cD b ≤ 60 := hB.2.1.2
  unfold fX11_isDay
  rw [c1, show ga M 0 1 = gi b 9 from h1, hB.2.1.1]
  have eD : (nI (cD b)).toInt = (cD b : Int) := nI_toInt (by omega)
  by_cases k1 : x < 0
  · rw [if_pos k1]
    rw [i_lt, i_0] at k1
    rw [decide_eq_false (by omega)]; rfl
  · rw [if_neg k1]
    rw [i_lt, i_0] at k1
    by_cases k2 : nI (cD b) ≤ x
    · rw [if_pos k2]
      rw [i_le, eD] at k2
      rw [decide_eq_false (by omega)]; rfl
    · rw [if_neg k2]
      rw [i_le, eD] at k2
      rw [decide_eq_true (by omega)]; rfl
/-- what is told, as a number; words of the set t are turned round, mu is mute -/
def tn (b : Rc) (t : Nat) (mu : Int32) (f d : Nat) : Int32 := if nI f = mu then -1 else match wd b f d with
  | none => -1
  | some w => b1 (w ^^ t.testBit f)
theorem tellOf_eq {b M : Rc} {n t : Nat} (hR : RB b M 0 n) (ht : t < 256) (hT : gi M 26 = nI t) {f d : Nat} (hf : f < cF b) (hd : d ≤ 62) : fX11_tellOf (nI f) (nI d) M = some (tn b t (gi M 25) f d) := by
  have hday := day_is hR
  obtain ⟨hB, h0, h1, h2, hFm, hG, hS, hTw, -⟩ := hR
  have hF : cF b ≤ 8 := hB.1.2
  have hDn : cD b ≤ 60 := hB.2.1.2
  obtain ⟨⟨l1, l2⟩, ⟨cu1, cu2⟩, -⟩ := hB.2.2.1 f hf
  obtain ⟨m0, -, -, -, m4, -⟩ := hFm f hf
  have m0 : ga M 0 (10 + 6 * f) = ga b 1 f := by rw [← m0, Nat.zero_add]
  have m4 : ga M 0 (10 + 6 * f + 4) = (if ga b 4 f = 61 then 1000000 else ga b 4 f) := by rw [← m4, Nat.zero_add]
  have e : (nI d - ga b 1 f).toInt = (d : Int) - lagZ b f := by
    have : (nI d).toInt = (d : Int) := nI_toInt (by omega)
    unfold lagZ at *
    rw [i_sub (by omega) (by omega), this]
  unfold fX11_tellOf fX11_lagOf lt_
  dsimp only
  rw [fRow, gd_pos (inbn (by omega) (by decide)), nI_clamp (by omega), m0]
  dsimp only [Option.bind]
  unfold tn
  by_cases k0 : nI f = gi M 25
  · rw [if_pos k0, if_pos k0]
  · rw [if_neg k0, if_neg k0, hday, e]
    by_cases k1 : 0 ≤ (d : Int) - lagZ b f ∧ (d : Int) - lagZ b f < cD b
    · rw [decide_eq_true k1, if_neg (show ¬ b1 true = 0 by decide)]
      unfold fX11_isWell
      rw [fRowk f 4 4 rfl, gd_pos (inbn (by omega) (by decide)), nI_clamp (by omega), m4]
      have hcur : (nI d - ga b 1 f) < (if ga b 4 f = 61 then 1000000 else ga b 4 f) ↔ (d : Int) - lagZ b f < curZ b f := by
        rw [i_lt, e]
        by_cases q : ga b 4 f = 61
        · rw [if_pos q]
          unfold curZ
          rw [q]
          constructor
          · intro _; show _ < (61 : Int); omega
          · intro _; show _ < (1000000 : Int); omega
        · rw [if_neg q]; rfl
      by_cases k2 : (d : Int) - lagZ b f < curZ b f
      · rw [if_pos (hcur.mpr k2)]
        dsimp only [Option.bind]
        rw [if_pos rfl]
        have hk : ((d : Int) - lagZ b f).toNat < cD b := by omega
        have ex : nI d - ga b 1 f = nI ((d : Int) - lagZ b f).toNat := by
          apply i_ext
          rw [e, nI_toInt (by omega)]
          omega
        have hw : wd b f d = some (tw b f ((d : Int) - lagZ b f).toNat) := by
          unfold wd fe
          rw [if_pos ⟨k1.1, k1.2, k2⟩]
          rfl
        rw [ex, tRow, gd_pos (inbn (by omega) (by decide)), nI_clamp (by omega), hT, mbit t ht f (by omega), hw]
        have := hTw f _ hf hk
        rw [Nat.zero_add] at this
        rw [this, b1_xor]
      · rw [if_neg (fun z => k2 (hcur.mp z))]
        dsimp only [Option.bind]
        rw [if_neg (by decide)]
        have hw : wd b f d = none := by
          unfold wd fe
          rw [if_neg (by omega)]
          rfl
        rw [hw]
    · rw [decide_eq_false k1, if_pos (show b1 false = 0 from rfl)]
      have hw : wd b f d = none := by
        unfold wd fe
        rw [if_neg (by omega)]
        rfl
      rw [hw]
