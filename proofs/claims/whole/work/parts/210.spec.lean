/-! ===== (B) a bench, as the class holds it: what is told ===== -/
theorem i_sub {x y : Int32} (h1 : -2147483648 ≤ x.toInt - y.toInt) (h2 : x.toInt - y.toInt < 2147483648) : (x - y).toInt = x.toInt - y.toInt := by
  rw [Int32.toInt_sub]; exact Int.bmod_eq_of_le (by omega) (by omega)
theorem i_add {x y : Int32} (h1 : -2147483648 ≤ x.toInt + y.toInt) (h2 : x.toInt + y.toInt < 2147483648) : (x + y).toInt = x.toInt + y.toInt := by
  rw [Int32.toInt_add]; exact Int.bmod_eq_of_le (by omega) (by omega)
theorem i_mul {x y : Int32} (h1 : -2147483648 ≤ x.toInt * y.toInt) (h2 : x.toInt * y.toInt < 2147483648) : (x * y).toInt = x.toInt * y.toInt := by
  rw [Int32.toInt_mul]; exact Int.bmod_eq_of_le (by omega) (by omega)
theorem i_ext {x y : Int32} (h : x.toInt = y.toInt) : x = y := Int32.toInt_inj.mp h
theorem i_lt {x y : Int32} : x < y ↔ x.toInt < y.toInt := Int32.lt_iff_toInt_lt
theorem i_le {x y : Int32} : x ≤ y ↔ x.toInt ≤ y.toInt := Int32.le_iff_toInt_le
theorem i_0 : (0 : Int32).toInt = 0 := rfl
theorem i_nat {x : Int32} (h : 0 ≤ x.toInt) : x = nI x.toInt.toNat := by
  apply i_ext
  have h2 : x.toInt < 2147483648 := by have := Int32.toInt_lt x; omega
  rw [nI_toInt (by omega)]
  omega
/-- how many farmers, how many days -/
def cF (b : Rc) : Nat := (gi b 8).toInt.toNat
def cD (b : Rc) : Nat := (gi b 9).toInt.toNat
def lagZ (b : Rc) (f : Nat) : Int := (ga b 1 f).toInt
def curZ (b : Rc) (f : Nat) : Int := (ga b 4 f).toInt
def wgt (b : Rc) (f : Nat) : Int := (ga b 5 f).toInt
def wetB (b : Rc) (k : Nat) : Bool := tb (gl b 10) k
def hailB (b : Rc) (k : Nat) : Bool := tb (gl b 11) k
def elbB (b : Rc) (f : Nat) : Bool := (gi b 13).toBitVec.toNat.testBit f
def tw (b : Rc) (f k : Nat) : Bool := tb (gb b 6 f) k
/-- the day on which a farmer felt what it tells of day d -/
def fe (b : Rc) (f d : Nat) : Option Nat := if 0 ≤ (d : Int) - lagZ b f ∧ (d : Int) - lagZ b f < cD b ∧ (d : Int) - lagZ b f < curZ b f then some ((d : Int) - lagZ b f).toNat else none
/-- what it tells -/
def wd (b : Rc) (f d : Nat) : Option Bool := (fe b f d).map (tw b f)
/-- what holds of each bench at rest -/
def BF (b : Rc) (f : Nat) : Prop := (-3 ≤ lagZ b f ∧ lagZ b f ≤ 3) ∧ (0 ≤ curZ b f ∧ curZ b f ≤ 61) ∧ (0 ≤ (ga b 2 f).toInt ∧ (ga b 2 f).toInt ≤ 16) ∧ (0 ≤ (ga b 3 f).toInt ∧ (ga b 3 f).toInt ≤ 16) ∧ (1 ≤ wgt b f ∧ wgt b f ≤ 64) ∧ ∀ k, cD b ≤ k → tw b f k = false
def BI (b : Rc) : Prop := (gi b 8 = nI (cF b) ∧ cF b ≤ 8) ∧ (gi b 9 = nI (cD b) ∧ cD b ≤ 60) ∧ (∀ f, f < cF b → BF b f) ∧ (∀ k, cD b ≤ k → wetB b k = false) ∧ (∀ k, hailB b k = true → wetB b k = true) ∧ (0 ≤ (gi b 12).toInt ∧ (gi b 12).toInt ≤ 3) ∧ (∀ i, i < 64 → 0 ≤ (ga b 7 i).toInt ∧ (ga b 7 i).toInt ≤ 99) ∧ (∀ f, f < 8 → ga b 7 (9 * f) = 0) ∧ (gi b 13).toBitVec.toNat < 256
theorem hasWord_eq {b : Rc} (hB : BI b) {f d : Nat} (hf : f < cF b) (hd : d ≤ 62) : fX0_hasWord (nI f) (nI d) b = some (b1 (fe b f d).isSome) := by
  obtain ⟨⟨-, hF⟩, ⟨hD, hDn⟩, hBF, -⟩ := hB
  obtain ⟨⟨l1, l2⟩, -⟩ := hBF f hf
  unfold fX0_hasWord lt_
  dsimp only
  rw [gd_pos (inbn (by omega) (by decide)), nI_clamp (by omega), hD]
  have e : (nI d - ga b 1 f).toInt = (d : Int) - lagZ b f := by
    have : (nI d).toInt = (d : Int) := nI_toInt (by omega)
    unfold lagZ at *
    rw [i_sub (by omega) (by omega), this]
  have eD : (nI (cD b)).toInt = (cD b : Int) := nI_toInt (by omega)
  unfold fe
  by_cases c1 : nI d - ga b 1 f < 0
  · rw [if_pos c1, if_neg]
    · rfl
    · rw [i_lt, e, i_0] at c1; omega
  · rw [if_neg c1]
    rw [i_lt, e, i_0] at c1
    by_cases c2 : nI (cD b) ≤ nI d - ga b 1 f
    · rw [if_pos c2, if_neg]
      · rfl
      · rw [i_le, e, eD] at c2; omega
    · rw [if_neg c2]
      rw [i_le, e, eD] at c2
      by_cases c3 : ga b 4 f ≤ nI d - ga b 1 f
      · rw [if_pos c3, if_neg]
        · rfl
        · rw [i_le, e] at c3; unfold curZ; omega
      · rw [if_neg c3, if_pos]
        · rfl
        · rw [i_le, e] at c3; unfold curZ; omega
theorem feltOn_eq {b : Rc} {f k : Nat} (hf : f < 8) (hk : k < 64) : fX0_feltOn (nI f) (nI k) b = some (b1 (tw b f k)) := by
  unfold fX0_feltOn
  rw [gd_pos (inbn hf (by decide)), nI_clamp (by omega), tb_bit32 hk]
  rfl
theorem believes_eq {b : Rc} (hB : BI b) {f d : Nat} (hf : f < cF b) (hd : d ≤ 62) : fX0_believes (nI f) (nI d) b = some (b1 (wd b f d == some true)) := by
  have hF : cF b ≤ 8 := hB.1.2
  have hDn : cD b ≤ 60 := hB.2.1.2
  obtain ⟨⟨l1, l2⟩, -⟩ := hB.2.2.1 f hf
  unfold fX0_believes
  rw [hasWord_eq hB hf hd]
  show (if b1 (fe b f d).isSome = 0 then _ else _) = _
  cases h : fe b f d with
  | none =>
    rw [if_pos (by rfl)]
    unfold wd
    rw [h]
    rfl
  | some k =>
    rw [if_neg (show ¬ b1 (some k).isSome = 0 from (by decide : ¬ b1 true = 0)), gd_pos (inbn (by omega) (by decide)), nI_clamp (by omega)]
    unfold fe at h
    split at h
    · rename_i hc
      have hk : k < 64 := by
        have := Option.some.inj h; omega
      have e : nI d - ga b 1 f = nI k := by
        apply i_ext
        have h1 : (nI d).toInt = (d : Int) := nI_toInt (by omega)
        have h2 : (nI k).toInt = (k : Int) := nI_toInt (by omega)
        have := Option.some.inj h
        unfold lagZ at *
        rw [i_sub (by omega) (by omega), h1, h2]
        omega
      rw [e, feltOn_eq (by omega) hk]
      show (if b1 (tw b f k) = 1 then some 1 else some 0) = _
      have hw : wd b f d = some (tw b f k) := by
        unfold wd fe
        rw [if_pos hc, h]
        rfl
      rw [hw]
      cases tw b f k <;> rfl
    · cases h
theorem tellersOf_eq {b : Rc} (hB : BI b) {d : Nat} (hd : d ≤ 62) : fX0_tellersOf (nI d) b = some (nI (mk (fun f => (fe b f d).isSome) (cF b))) := by
  have hF : cF b ≤ 8 := hB.1.2
  unfold fX0_tellersOf
  have key : ∀ i, itr (fun f (s : Int32) => if (fe b f d).isSome = true then s ||| nI (2 ^ f) else s) 0 i = nI (mk (fun f => (fe b f d).isSome) i) := by
    intro i
    induction i with
    | zero => rfl
    | succ i ih =>
      rw [itr_succ, mk_succ, ih]
      cases (fe b i d).isSome
      · rfl
      · simp only [if_true, nx_or]
  rw [loop_for (fun f (s : Int32) => if (fe b f d).isSome = true then s ||| nI (2 ^ f) else s) 0 (cF b) (r := nI (mk (fun f => (fe b f d).isSome) (cF b)))]
  · rfl
  · intro i hi
    unfold fX0_tellersOf_L4 lt_
    dsimp only
    rw [hB.1.1, if_neg (nI_ge hi (by omega)), hasWord_eq hB hi hd, nI_1, nx_one i (by omega)]
    show (if b1 (fe b i d).isSome = 0 then _ else _) = _
    cases (fe b i d).isSome <;> rfl
  · unfold fX0_tellersOf_L4
    dsimp only
    rw [hB.1.1, if_pos (nI_le (Nat.le_refl _) (by omega)), key]
