/-! ===== (B) the relation of all that both sides hold ===== -/
/-- status, fraction, number of marks -/
def RS (kb M : Rc) : Prop := gi kb 16 = gi M 2 ∧ gl kb 17 = gl M 3 ∧ gl kb 18 = gl M 4 ∧ gi kb 15 = gi M 37 ∧ 0 ≤ (gi kb 15).toInt ∧ (gi kb 15).toInt ≤ 3
/-- the tape, the latest text's fault -/
def RK (tk M : Rc) : Prop := ga tk 0 = ga M 8 ∧ gi tk 2 = gi M 10 ∧ (0 ≤ (gi tk 2).toInt ∧ (gi tk 2).toInt ≤ 900) ∧ gi tk 12 = gi M 16 ∧ gi tk 13 = gi M 17 ∧ ∀ k, -128 ≤ (ga tk 0 k).toInt ∧ (ga tk 0 k).toInt < 128
/-- the words of the class' seasons, as the reference numbers them -/
def kmap (k : Int32) : Int32 := if k = 14 then 14 else if k = 15 then 16 else if k = 16 then 15 else if k = 17 then 17 else if k = 18 then 18 else if k = 20 then 19 else if k = 21 then 20 else if k = 22 then 21 else if k = 24 then 2327 else if k = 25 then 2328 else if k = 26 then 2329 else if k = 27 then 24 else if k = 28 then 25 else 26
/-- what the last life told -/
def RL_ (lf M : Rc) : Prop := (gi lf 2 = -1 ↔ gi M 36 = 0) ∧ (gi M 36 = 0 ∨ gi M 36 = 1) ∧ (gi M 36 = 1 → gi lf 3 = ga M 35 0 ∧ gi lf 4 = ga M 35 1 ∧ gi lf 5 = ga M 35 2 ∧ gi lf 6 = ga M 35 3 ∧ isb (gi lf 6) = true)
/-- the row of seats -/
def RW_ (se M : Rc) : Prop := gi se 2 = gi M 31 ∧ (0 ≤ (gi se 2).toInt ∧ (gi se 2).toInt ≤ 8) ∧ ∀ k : Nat, k < 8 → (k : Int) < (gi se 2).toInt → ga se 1 k = ga M 30 k
theorem st_eq {kb M : Rc} (h : RS kb M) (v : Int32) : RS (si kb 16 v) (si M 2 v) := by
  obtain ⟨-, h2, h3, h4, h5, h6⟩ := h
  exact ⟨rfl, h2, h3, h4, h5, h6⟩
/-! rows of trays -/
theorem tr_in {t p : Nat} (ht : t < 4) (hp : p < 60) : (nI t * (60 : Int32)) + nI p = nI (60 * t + p) ∧ ((60 : Int32) * nI t) + nI p = nI (60 * t + p) := by
  rw [show (60 : Int32) = nI 60 from rfl, nI_mul, nI_mul, nI_add, nI_add, Nat.mul_comm]
  exact ⟨rfl, rfl⟩
theorem noTray_cases (x : Int32) : (∃ t, t < 4 ∧ x = nI t ∧ fX10_noTray x = 0 ∧ fX11_isTray x = 1) ∨ (fX10_noTray x = 1 ∧ fX11_isTray x = 0) := by
  unfold fX10_noTray fX10_outside fX11_isTray
  have h3 : (3 : Int32).toInt = 3 := rfl
  have h4 : (4 : Int32).toInt = 4 := rfl
  by_cases k1 : x < 0
  · right; rw [if_pos k1, if_pos k1]; exact ⟨rfl, rfl⟩
  · rw [if_neg k1, if_neg k1]
    rw [i_lt, i_0] at k1
    by_cases k2 : x ≤ 3
    · left
      have k3 := i_le.mp k2
      rw [h3] at k3
      refine ⟨x.toInt.toNat, by omega, i_nat (by omega), if_pos k2, if_neg ?_⟩
      rw [i_le, h4]; omega
    · right
      refine ⟨if_neg k2, if_pos ?_⟩
      rw [i_le, h3] at k2
      rw [i_le, h4]; omega
theorem place_eq {ty M kb : Rc} (hT : RT ty M) (x p : Int32) : ∃ r : Int32, fX10_placeProblem x p kb ty = some r ∧ fX11_wrongPlace x p M = some r ∧ (r = 0 ∨ r = 1 ∨ r = 2 ∨ r = 3) ∧ (r = 0 → ∃ t q, t < 4 ∧ q < 60 ∧ x = nI t ∧ p = nI q) := by
  obtain ⟨h1, h2, h3, h4⟩ := hT
  have hm1 : (-1 : Int32).toInt = -1 := rfl
  have h11 : (1 : Int32).toInt = 1 := rfl
  unfold fX10_placeProblem fX11_wrongPlace
  rcases noTray_cases x with ⟨t, ht, rfl, e1, e2⟩ | ⟨e1, e2⟩
  · obtain ⟨s1, s2⟩ := h4 t ht
    rw [e1, e2, if_pos rfl, if_neg (by decide)]
    unfold fX9_isMissing fX9_hasPlaces
    rw [gd_pos (inbn ht (by decide)), gd_pos (inbn ht (by decide)), gd_pos (inbn ht (by decide)), nI_clamp (by omega), ← h2]
    by_cases k1 : ga ty 2 t = -1
    · rw [if_pos k1, if_pos k1]
      exact ⟨2, rfl, rfl, Or.inr (Or.inr (Or.inl rfl)), fun z => absurd z (by decide)⟩
    · rw [if_neg k1, if_neg k1]
      dsimp only [Option.bind]
      rw [if_pos rfl]
      have n1 : (ga ty 2 t).toInt ≠ -1 := fun z => k1 (i_ext (z.trans hm1.symm))
      by_cases k2 : p < 0
      · rw [if_pos k2, if_pos k2]
        exact ⟨3, rfl, rfl, Or.inr (Or.inr (Or.inr rfl)), fun z => absurd z (by decide)⟩
      · rw [if_neg k2, if_neg k2]
        rw [i_lt, i_0] at k2
        by_cases k3 : p < ga ty 2 t
        · have k4 := i_lt.mp k3
          rw [if_pos k3, if_neg (by rw [i_lt]; omega), if_neg (by rw [i_lt, h11, i_sub (by omega) (by omega)]; omega)]
          exact ⟨0, rfl, rfl, Or.inl rfl, fun _ => ⟨t, p.toInt.toNat, ht, by omega, rfl, i_nat (by omega)⟩⟩
        · have k4 : ¬ p.toInt < (ga ty 2 t).toInt := fun z => k3 (i_lt.mpr z)
          rw [if_neg k3]
          by_cases k5 : ga ty 2 t < p
          · rw [if_pos k5]
            exact ⟨3, rfl, rfl, Or.inr (Or.inr (Or.inr rfl)), fun z => absurd z (by decide)⟩
          · have k6 : ¬ (ga ty 2 t).toInt < p.toInt := fun z => k5 (i_lt.mpr z)
            rw [if_neg k5, if_pos (by rw [i_lt, h11, i_sub (by omega) (by omega)]; omega)]
            exact ⟨3, rfl, rfl, Or.inr (Or.inr (Or.inr rfl)), fun z => absurd z (by decide)⟩
  · rw [e1, e2, if_neg (by decide), if_pos rfl]
    exact ⟨1, rfl, rfl, Or.inr (Or.inl rfl), fun z => absurd z (by decide)⟩
