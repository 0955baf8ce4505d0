/-! ===== (B) a season's text: what stands behind a step's word ===== -/
theorem begins_300 {N : Nat} (h : N ≤ 300) (M : Rc) : fX11_begins (nI N) 300 M = fX11_begins (nI N) 900 M := by
  unfold fX11_begins
  rw [if_pos (show nI N ≤ 300 from nI_le (b := 300) h (by decide)), if_pos (show nI N ≤ 900 from nI_le (b := 900) (by omega) (by decide))]
theorem out3_eq {tk M : Rc} (hK : RK tk M) (p1 : Int32) : (fX10_outside p1 0 (gi tk 2) = 1 ∧ fX11_begins p1 300 M = some ((0 : Int32), M)) ∨ (fX10_outside p1 0 (gi tk 2) = 0 ∧ ¬ p1 ≤ 300 ∧ fX11_begins p1 300 M = some ((0 : Int32), M)) ∨ (fX10_outside p1 0 (gi tk 2) = 0 ∧ p1 ≤ 300 ∧ ∃ N, p1 = nI N ∧ N ≤ 300 ∧ nI N ≤ gi M 10) := by
  obtain ⟨k0, k2, k2b, k12, k13, kb⟩ := hK
  unfold fX10_outside fX11_begins
  rw [k2] at k2b ⊢
  by_cases c1 : p1 < 0
  · rw [if_pos c1, if_pos c1]
    exact Or.inl ⟨rfl, rfl⟩
  · rw [if_neg c1, if_neg c1]
    rw [i_lt, i_0] at c1
    by_cases c2 : gi M 10 < p1
    · rw [if_pos c2, if_neg (by rw [i_le]; rw [i_lt] at c2; omega)]
      exact Or.inl ⟨rfl, rfl⟩
    · rw [if_pos (by rw [i_le]; rw [i_lt] at c2; omega), if_neg c2]
      rw [i_lt] at c2
      by_cases c3 : p1 ≤ 300
      · refine Or.inr (Or.inr ⟨rfl, c3, p1.toInt.toNat, i_nat (by omega), ?_, by rw [← i_nat (by omega), i_le]; omega⟩)
        rw [i_le, show (300 : Int32).toInt = 300 from rfl] at c3
        omega
      · rw [if_neg c3]
        exact Or.inr (Or.inl ⟨rfl, c3, rfl⟩)
/-- only the cells of one step change -/
def FO (R : Nat) (M M' : Rc) : Prop := (∀ j, ¬ (12 ≤ j ∧ j ≤ 15) → gi M' j = gi M j) ∧ (∀ j, gl M' j = gl M j) ∧ (∀ j, ¬ j = 0 → ga M' j = ga M j) ∧ (∀ j, gb M' j = gb M j) ∧ (∀ k, ¬ (R ≤ k ∧ k < R + 6) → ga M' 0 k = ga M 0 k)
theorem FO_refl (R : Nat) (M : Rc) : FO R M M := ⟨fun _ _ => rfl, fun _ => rfl, fun _ _ => rfl, fun _ => rfl, fun _ _ => rfl⟩
theorem FO_trans {R : Nat} {A B C : Rc} (h : FO R A B) (k : FO R B C) : FO R A C := ⟨fun j x => (k.1 j x).trans (h.1 j x), fun j => (k.2.1 j).trans (h.2.1 j), fun j x => (k.2.2.1 j x).trans (h.2.2.1 j x), fun j => (k.2.2.2.1 j).trans (h.2.2.2.1 j), fun j x => (k.2.2.2.2 j x).trans (h.2.2.2.2 j x)⟩
theorem FO_FA (R : Nat) {M M' : Rc} (h : FA M M') : FO R M M' := ⟨h.2, FA_gl h, fun j _ => FA_ga h j, FA_gb h, fun k _ => by rw [FA_ga h]⟩
theorem FO_up {R k : Nat} (M : Rc) (h1 : R ≤ k) (h2 : k < R + 6) (v : Int32) : FO R M (sa M 0 (upd (ga M 0) k v)) := ⟨fun _ _ => rfl, fun _ => rfl, fun j h => by rw [ga_sa, if_neg h], fun _ => rfl, fun j hj => by rw [ga_sa0, upd_ne _ _ (by omega)]⟩
theorem FO_FP {R : Nat} (hR : 4160 ≤ R) {M M' : Rc} (h : FO R M M') : FP M M' := ⟨fun j x _ _ _ => h.1 j x, h.2.1, h.2.2.1, fun j _ => h.2.2.2.1 j, fun k hk => h.2.2.2.2 k (by omega), fun k _ => by rw [h.2.2.2.1 1]⟩
/-- what a step holds, on both sides -/
def SC_ (κ σ v f : Int32) (M : Rc) (R F : Nat) : Prop := ga M 0 R = kmap κ ∧ ((κ = 14 ∧ ga M 0 (R + 1) = v ∧ nr v 0 16) ∨ κ = 15 ∨ κ = 16 ∨ κ = 17 ∨ (κ = 18 ∧ ga M 0 (R + 1) = f ∧ (0 ≤ f.toInt ∧ f.toInt < F) ∧ ga M 0 (R + 2) = v ∧ nr v 0 59) ∨ (κ = 20 ∧ ga M 0 (R + 1) = f ∧ (0 ≤ f.toInt ∧ f.toInt < F) ∧ ga M 0 (R + 2) = v ∧ nr v 0 60) ∨ (κ = 21 ∧ ga M 0 (R + 1) = f ∧ (0 ≤ f.toInt ∧ f.toInt < F) ∧ ga M 0 (R + 2) = v ∧ nr v 0 16) ∨ (κ = 22 ∧ ga M 0 (R + 1) = v ∧ nr v 0 59) ∨ (κ = 24 ∧ ga M 0 (R + 1) = v ∧ nr v 0 62) ∨ (κ = 25 ∧ ga M 0 (R + 1) = f ∧ (0 ≤ f.toInt ∧ f.toInt < F) ∧ ga M 0 (R + 2) = v ∧ ga M 0 (R + 5) = σ) ∨ (κ = 26 ∧ ga M 0 (R + 2) = v ∧ ga M 0 (R + 5) = σ) ∨ (κ = 27 ∧ ga M 0 (R + 1) = v ∧ nr v 1 99) ∨ κ = 29)
/-- one number behind it -/
theorem num_O {t : Nat → Int32} {N e : Nat} {tk M : Rc} (h : G t N e tk M) {R j lo hi : Nat} (h1 : lo ≤ 9999) (h2 : hi ≤ 9999) (hR : 4160 ≤ R) (hR2 : R + 6 ≤ 6240) (hj : j < 6) : (∃ (tk' M' : Rc), fX8_passNumber (nI lo) (nI hi) tk = some ((1 : Int32), tk') ∧ fX11_number (nI (R + j)) (nI lo) (nI hi) M = some ((1 : Int32), M') ∧ FK tk tk' ∧ FO R M M' ∧ (∃ e', e ≤ e' ∧ G t N e' tk' M') ∧ ga M' 0 (R + j) = gi tk' 10 ∧ nr (gi tk' 10) lo hi ∧ gi tk' 11 = gi tk 11 ∧ (∀ k, ¬ k = R + j → ga M' 0 k = ga M 0 k)) ∨ BADR tk M (fX8_passNumber (nI lo) (nI hi) tk) (fX11_number (nI (R + j)) (nI lo) (nI hi) M) := by
  rcases num_G h h1 h2 (to := R + j) (by omega) (by omega) with ⟨tk', M', v, q1, q2, fc, fa, v1, v2, e', he, hG⟩ | q
  · left
    have e10 : gi tk' 10 = nI v := fc.2.2 10 (by omega)
    refine ⟨tk', M', q1, q2, ⟨fc.2.2 2 (by omega), fc.1, fc.2.1⟩, FO_trans (FO_up M (by omega) (by omega) _) (FO_FA R fa), ⟨e', he, hG⟩, ?_, ?_, fc.2.2 11 (by omega), fun k hk => ?_⟩
    · rw [FA_ga fa, ga_sa0, upd_eq, e10]
    · rw [e10]
      unfold nr
      rw [nI_toInt (by omega)]
      omega
    · rw [FA_ga fa, ga_sa0, upd_ne _ _ hk]
  · exact Or.inr q
/-- a farmer behind it -/
theorem old_O {t : Nat → Int32} {N e : Nat} {tk M b : Rc} (h : G t N e tk M) {F R j : Nat} (hF : F ≤ 8) (h8 : gi b 8 = nI F) (hN : NM b M F 0) (h0 : ga M 0 0 = nI F) (hR : 4160 ≤ R) (hR2 : R + 6 ≤ 6240) (hj : j < 6) : (∃ (tk' M' : Rc), fX8_passFarmer tk b = some ((1 : Int32), tk') ∧ fX11_farmerTo (nI (R + j)) M = some ((1 : Int32), M') ∧ FK tk tk' ∧ FO R M M' ∧ (∃ e', e ≤ e' ∧ G t N e' tk' M') ∧ ga M' 0 (R + j) = gi tk' 11 ∧ (0 ≤ (gi tk' 11).toInt ∧ (gi tk' 11).toInt < F) ∧ (∀ k, ¬ k = R + j → ga M' 0 k = ga M 0 k)) ∨ BADR tk M (fX8_passFarmer tk b) (fX11_farmerTo (nI (R + j)) M) := by
  have ef : fX11_farmerTo (nI (R + j)) M = fX11_oldOne (nI 0) (nI F) (nI (R + j)) M := by
    unfold fX11_farmerTo
    rw [c0, h0]
    show (fX11_oldOne (nI 0) (nI F) (nI (R + j)) M).bind (fun r1 => some (r1.1, r1.2)) = _
    cases fX11_oldOne (nI 0) (nI F) (nI (R + j)) M <;> rfl
  rw [ef]
  rcases old_G h hF (base := 0) (by omega) h8 hN (to := R + j) (by omega) (by omega) with ⟨tk', M', f, hf, q1, q2, fc, fa, e', he, hG⟩ | q
  · left
    have e11 : gi tk' 11 = nI f := fc.2.2 11 (by omega)
    refine ⟨tk', M', q1, q2, ⟨fc.2.2 2 (by omega), fc.1, fc.2.1⟩, FO_trans (FO_up M (by omega) (by omega) _) (FO_FA R fa), ⟨e', he, hG⟩, ?_, ?_, fun k hk => ?_⟩
    · rw [FA_ga fa, ga_sa0, upd_eq, e11]
    · rw [e11, nI_toInt (by omega)]
      omega
    · rw [FA_ga fa, ga_sa0, upd_ne _ _ hk]
  · exact Or.inr q
