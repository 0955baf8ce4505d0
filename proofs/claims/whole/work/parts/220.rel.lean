/-! ===== (B) the class' records beside the reference's ===== -/
/-- a name: its letters, 1 to 26 each; as the class packs it, as the reference does -/
def pk5 (w : List Nat) : Int64 := lN (w.foldl (fun a c => a * 32 + c) 0)
def pk8 (w : List Nat) : Int64 := lN (w.foldl (fun a c => a * 256 + (c + 96)) 0)
def okw (w : List Nat) : Prop := w ≠ [] ∧ w.length ≤ 8 ∧ ∀ c ∈ w, 1 ≤ c ∧ c ≤ 26
/-- a bench of the class, and the slot of the reference from o on (names from n on) -/
def RB (b : Rc) (M : Rc) (o n : Nat) : Prop :=
  BI b ∧ ga M 0 o = gi b 8 ∧ ga M 0 (o + 1) = gi b 9 ∧ ga M 0 (o + 2) = gi b 12 ∧
  (∀ f, f < cF b → ga M 0 (o + 10 + 6 * f) = ga b 1 f ∧ ga M 0 (o + 10 + 6 * f + 1) = ga b 2 f ∧ ga M 0 (o + 10 + 6 * f + 2) = ga b 3 f ∧ ga M 0 (o + 10 + 6 * f + 3) = b1 (elbB b f) ∧ ga M 0 (o + 10 + 6 * f + 4) = (if ga b 4 f = 61 then 1000000 else ga b 4 f) ∧ ga M 0 (o + 10 + 6 * f + 5) = ga b 5 f) ∧
  (∀ i, i < 64 → ga M 0 (o + 58 + i) = ga b 7 i) ∧
  (∀ d, d < cD b → ga M 0 (o + 122 + d) = b1 (wetB b d) + b1 (hailB b d)) ∧
  (∀ f d, f < cF b → d < cD b → ga M 0 (o + 182 + 60 * f + d) = b1 (tw b f d)) ∧
  (∀ f, f < cF b → ∃ w, okw w ∧ gb b 0 f = pk5 w ∧ gb M 1 (n + f) = pk8 w)
/-- trays -/
def RT (ty M : Rc) : Prop := ga ty 1 = ga M 5 ∧ ga ty 2 = ga M 6 ∧ gb ty 0 = gb M 7 ∧ ∀ k, k < 4 → -1 ≤ (ga ty 2 k).toInt ∧ (ga ty 2 k).toInt ≤ 60
/-- what a query answers on both sides: the value v, the status st -/
def QQ (c m : Option (Int32 × Rc)) (kb M : Rc) : Prop := ∃ v st : Int32, c = some (v, si kb 16 st) ∧ m = some (v, si M 2 st)
theorem answer_eq (v : Int32) (kb : Rc) : fX10_answer v kb = (v, si kb 16 0) := rfl
theorem refuse_eq (v : Int32) (kb : Rc) : fX10_refuse v kb = (-1, si kb 16 v) := rfl
theorem allow_eq (kb : Rc) : fX10_allow kb = (1, si kb 16 0) := rfl
theorem deny_eq (v : Int32) (kb : Rc) : fX10_deny v kb = (0, si kb 16 v) := rfl
theorem gives_eq (v : Int32) (M : Rc) : fX11_gives v M = (v, si M 2 0) := rfl
theorem mrefuse_eq (v : Int32) (M : Rc) : fX11_refuse v M = (-1, si M 2 v) := rfl
theorem mis_0 (M : Rc) : fX11_is 0 M = (1, si M 2 0) := rfl
theorem mis_ne {v : Int32} (h : ¬ v = 0) (M : Rc) : fX11_is v M = (0, si M 2 v) := if_neg h
theorem ifAny_eq (v : Int32) (kb : Rc) : fX10_answerIfAny v kb = if v = -1 then (-1, si kb 16 6) else (v, si kb 16 0) := rfl
theorem orNone_eq (v : Int32) (M : Rc) : fX11_orNone v M = if v = -1 then (-1, si M 2 6) else (v, si M 2 0) := rfl
theorem c0 : (0 : Int32).toNatClampNeg = 0 := rfl
theorem c1 : (1 : Int32).toNatClampNeg = 1 := rfl
theorem c2 : (2 : Int32).toNatClampNeg = 2 := rfl
theorem c3 : (3 : Int32).toNatClampNeg = 3 := rfl
/-- a farmer that is there, to the class -/
theorem has_farmer {b : Rc} {F f : Nat} (h8 : gi b 8 = nI F) (hF : F ≤ 8) (hf : f < F) : fX0_hasFarmer (nI f) b = 1 := by
  unfold fX0_hasFarmer
  rw [h8, if_neg (show ¬ nI f < 0 from nI_nlt (b := 0) (Nat.zero_le _) (by omega)), if_neg (nI_ge hf (by omega))]
theorem cure_on {b : Rc} {F f : Nat} (h8 : gi b 8 = nI F) (hF : F ≤ 8) (hf : f < F) (v : Int32) : fX0_cureOn (nI f) v b = some (sa b 4 (upd (ga b 4) f v)) := by
  unfold fX0_cureOn lt_
  rw [has_farmer h8 hF hf, if_neg (by decide), gd_pos (inbn (by omega) (by decide)), nI_clamp (by omega)]
theorem set_false {b : Rc} {F f : Nat} (h8 : gi b 8 = nI F) (hF : F ≤ 8) (hf : f < F) (v : Int32) : fX0_setFalse (nI f) v b = some (sa b 3 (upd (ga b 3) f v)) := by
  unfold fX0_setFalse lt_
  rw [has_farmer h8 hF hf, if_neg (by decide), gd_pos (inbn (by omega) (by decide)), nI_clamp (by omega)]
/-- a farmer's number is one, or it isn't -/
theorem farmer_cases {b M : Rc} {n : Nat} (hR : RB b M 0 n) (kb : Rc) (x : Int32) : (∃ f, f < cF b ∧ x = nI f ∧ fX10_noFarmer x kb b = 0 ∧ fX11_isFarmer x M = 1) ∨ (fX10_noFarmer x kb b = 1 ∧ fX11_isFarmer x M = 0) := by
  obtain ⟨hB, h0, -⟩ := hR
  have hF : cF b ≤ 8 := hB.1.2
  have e8 : gi b 8 = nI (cF b) := hB.1.1
  unfold fX10_noFarmer fX0_hasFarmer fX11_isFarmer
  rw [c0, h0, e8]
  have eF : (nI (cF b)).toInt = (cF b : Int) := nI_toInt (by omega)
  by_cases c1 : x < 0
  · right
    rw [if_pos c1, if_pos rfl]; exact ⟨rfl, rfl⟩
  · rw [if_neg c1]
    rw [i_lt, i_0] at c1
    by_cases c2 : nI (cF b) ≤ x
    · right
      rw [if_pos c2, if_pos rfl]
      exact ⟨rfl, rfl⟩
    · left
      have c3 := c2
      rw [i_le, eF] at c2
      refine ⟨x.toInt.toNat, by omega, i_nat (by omega), ?_, ?_⟩
      · rw [if_neg c3, if_neg (by decide)]
      · rw [if_neg c3]
