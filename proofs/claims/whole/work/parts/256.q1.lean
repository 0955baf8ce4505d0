/-! ===== (B) simple questions ===== -/
theorem i10 {α : Type} (a b : α) : (if (1 : Int32) = 0 then a else b) = b := rfl
theorem i00 {α : Type} (a b : α) : (if (0 : Int32) = 0 then a else b) = a := rfl
theorem rel_b {sg : Nat → Rc} {M : Rc} (h : Rel sg M) : RB (sg 1) M 0 0 ∧ gi M 25 = -1 ∧ gi M 26 = 0 := ⟨h.2.1, h.2.2.2.2.2.2.2.2.1, h.2.2.2.2.2.2.2.2.2⟩
theorem day_cases {b M : Rc} {n : Nat} (hR : RB b M 0 n) (kb : Rc) (x : Int32) : (∃ d, d < cD b ∧ x = nI d ∧ fX10_noDay x kb b = 0 ∧ fX11_isDay x M = 1) ∨ (fX10_noDay x kb b = 1 ∧ fX11_isDay x M = 0) := by
  rw [day_is hR x]
  have hD : cD b ≤ 60 := hR.1.2.1.2
  have eD : (nI (cD b)).toInt = (cD b : Int) := nI_toInt (by omega)
  unfold fX10_noDay
  rw [hR.1.2.1.1]
  by_cases k1 : x < 0
  · right
    rw [if_pos k1]
    rw [i_lt, i_0] at k1
    rw [decide_eq_false (by omega)]
    exact ⟨rfl, rfl⟩
  · rw [if_neg k1]
    rw [i_lt, i_0] at k1
    by_cases k2 : x < nI (cD b)
    · left
      rw [if_pos k2]
      rw [i_lt, eD] at k2
      rw [decide_eq_true (by omega)]
      exact ⟨x.toInt.toNat, by omega, i_nat (by omega), rfl, rfl⟩
    · right
      rw [if_neg k2]
      rw [i_lt, eD] at k2
      rw [decide_eq_false (by omega)]
      exact ⟨rfl, rfl⟩
theorem asked_cases (x : Int32) : (∃ d, d ≤ 62 ∧ x = nI d ∧ fX10_noToldDay x = 0 ∧ fX11_isAsked x = 1) ∨ (fX10_noToldDay x = 1 ∧ fX11_isAsked x = 0) := by
  unfold fX10_noToldDay fX10_outside fX11_isAsked
  have h : (62 : Int32).toInt = 62 := rfl
  by_cases k1 : x < 0
  · right; rw [if_pos k1, if_pos k1]; exact ⟨rfl, rfl⟩
  · rw [if_neg k1, if_neg k1]
    rw [i_lt, i_0] at k1
    by_cases k2 : x ≤ 62
    · left
      have k3 := i_le.mp k2
      rw [h] at k3
      exact ⟨x.toInt.toNat, by omega, i_nat (by omega), if_pos k2, if_neg (by rw [i_lt, h]; omega)⟩
    · right
      rw [if_neg k2, if_pos (by rw [i_le, h] at k2; rw [i_lt, h]; omega)]
      exact ⟨rfl, rfl⟩
theorem l_lt {x y : Int64} : x < y ↔ x.toInt < y.toInt := Int64.lt_iff_toInt_lt
theorem l_le {x y : Int64} : x ≤ y ↔ x.toInt ≤ y.toInt := Int64.le_iff_toInt_le
theorem rng_cases (x lo hi : Int32) {lo' hi' : Int64} (h1 : lo' = lo.toInt64) (h2 : hi' = hi.toInt64) : (lo.toInt ≤ x.toInt ∧ x.toInt ≤ hi.toInt ∧ fX10_outside x lo hi = 0 ∧ fX11_isFrom x.toInt64 lo' hi' = 1) ∨ ((x.toInt < lo.toInt ∨ hi.toInt < x.toInt) ∧ fX10_outside x lo hi = 1 ∧ fX11_isFrom x.toInt64 lo' hi' = 0) := by
  subst h1 h2
  unfold fX10_outside fX11_isFrom
  by_cases k1 : x < lo
  · right
    have k2 : x.toInt64 < lo.toInt64 := by rw [l_lt]; simpa using i_lt.mp k1
    rw [if_pos k1, if_pos k2]; exact ⟨Or.inl (i_lt.mp k1), rfl, rfl⟩
  · have k1' : ¬ x.toInt64 < lo.toInt64 := by rw [i_lt] at k1; rw [l_lt]; simp; omega
    rw [if_neg k1, if_neg k1']
    rw [i_lt] at k1
    by_cases k2 : x ≤ hi
    · left
      have k3 := i_le.mp k2
      have k4 : ¬ hi.toInt64 < x.toInt64 := by rw [l_lt]; simp; omega
      rw [if_pos k2, if_neg k4]
      exact ⟨by omega, k3, rfl, rfl⟩
    · right
      have k4 : hi.toInt64 < x.toInt64 := by rw [i_le] at k2; rw [l_lt]; simp; omega
      rw [if_neg k2, if_pos k4]
      exact ⟨Or.inr (by rw [i_le] at k2; omega), rfl, rfl⟩
theorem out_cases (x lo hi : Int32) : (lo.toInt ≤ x.toInt ∧ x.toInt ≤ hi.toInt ∧ fX10_outside x lo hi = 0) ∨ ((x.toInt < lo.toInt ∨ hi.toInt < x.toInt) ∧ fX10_outside x lo hi = 1) := by
  unfold fX10_outside
  by_cases k1 : x < lo
  · right; rw [if_pos k1]; exact ⟨Or.inl (i_lt.mp k1), rfl⟩
  · rw [if_neg k1]
    rw [i_lt] at k1
    by_cases k2 : x ≤ hi
    · left; rw [if_pos k2]; exact ⟨by omega, i_le.mp k2, rfl⟩
    · right; rw [if_neg k2]; rw [i_le] at k2; exact ⟨Or.inr (by omega), rfl⟩
theorem what01 (x : Int32) : (x = 0 ∨ x = 1) ∧ fX10_outside x 0 1 = 0 ∨ ((x < 0) ∧ fX10_outside x 0 1 = 1) ∨ (¬ (x < 0) ∧ ¬ (x ≤ 1) ∧ fX10_outside x 0 1 = 1) := by
  have h1 : (1 : Int32).toInt = 1 := rfl
  rcases out_cases x 0 1 with ⟨a, c, e⟩ | ⟨a, e⟩
  · left
    rw [i_0] at a; rw [h1] at c
    refine ⟨?_, e⟩
    by_cases q : x.toInt = 0
    · exact Or.inl (i_ext q)
    · exact Or.inr (i_ext (by rw [h1]; omega))
  · right
    rw [i_0, h1] at a
    by_cases q : x < 0
    · exact Or.inl ⟨q, e⟩
    · refine Or.inr ⟨q, ?_, e⟩
      rw [i_lt, i_0] at q
      rw [i_le, h1]; omega
theorem q_status {kb M : Rc} (h : RS kb M) : fX10_status kb = fX11_status M := h.1
theorem b_status : BT_status Rel := fun sg M hR => ⟨_, _, rfl, rfl, hR.1.1, hR⟩
theorem b_top : BT_top Rel := fun sg M hR => ⟨_, _, rfl, rfl, hR.1.2.1, hR⟩
theorem b_bottom : BT_bottom Rel := fun sg M hR => ⟨_, _, rfl, rfl, hR.1.2.2.1, hR⟩
theorem b_fault : BT_fault Rel := by
  intro sg M hR p1
  obtain ⟨-, -, -, -, -, ⟨⟨-, -, -, h1, h2, -⟩, -⟩, -⟩ := id hR
  refine ⟨_, _, rfl, rfl, ?_, hR⟩
  unfold fX10_fault fX11_fault
  rw [h1, h2]
theorem b_seatAt : BT_seatAt Rel := by
  intro sg M hR p1
  apply bt_q hR
  obtain ⟨h1, ⟨h2, h3⟩, h4⟩ := hR.2.2.2.2.2.2.2.1
  unfold fX10_seatAt fX11_seatAt
  by_cases k1 : p1 < 0
  · rw [if_pos k1, if_pos k1]; exact qq_ref 6
  · rw [if_neg k1, if_neg k1, ← h1]
    rw [i_lt, i_0] at k1
    by_cases k2 : p1 < gi (sg 23) 2
    · have k3 := i_lt.mp k2
      have hin : inb p1 8 = true := inb_of (by omega) (by omega)
      have e2 : p1.toNatClampNeg = p1.toInt.toNat := rfl
      rw [if_pos k2, if_pos k2, gd_pos hin, gd_pos hin, e2, h4 p1.toInt.toNat (by omega) (by omega)]
      exact qq_ans _
    · rw [if_neg k2, if_neg k2]
      exact qq_ref 6
theorem qq_pure {sg : Nat → Rc} {M : Rc} {c : Int32 × Rc} {m : Option (Int32 × Rc)} (hR : Rel sg M) (h : QQ (some c) m (sg 0) M) : ∃ (r1 : Int32 × Rc) (r2 : Int32 × Rc), c = r1 ∧ m = some r2 ∧ r1.1 = r2.1 ∧ Rel (va_up sg 0 r1.2) r2.2 := by
  obtain ⟨v, st, q1, q2⟩ := h
  exact ⟨_, _, rfl, q2, by rw [Option.some.inj q1], by rw [Option.some.inj q1]; exact rel_st hR st⟩
theorem i_4 {x : Int32} (h0 : 0 ≤ x.toInt) (h3 : x.toInt ≤ 3) : x = 0 ∨ x = 1 ∨ x = 2 ∨ x = 3 := by
  have t1 : (1 : Int32).toInt = 1 := rfl
  have t2 : (2 : Int32).toInt = 2 := rfl
  have t3 : (3 : Int32).toInt = 3 := rfl
  rcases (show x.toInt = 0 ∨ x.toInt = 1 ∨ x.toInt = 2 ∨ x.toInt = 3 by omega) with h | h | h | h
  · exact Or.inl (i_ext h)
  · exact Or.inr (Or.inl (i_ext h))
  · exact Or.inr (Or.inr (Or.inl (i_ext h)))
  · exact Or.inr (Or.inr (Or.inr (i_ext h)))
theorem bit_isb {x : Int32} (h : isb x = true) : fX10_bit x = x := by
  rcases isb_cases h with h | h <;> (subst h; rfl)
theorem b_lived : BT_lived Rel := by
  intro sg M hR p1
  apply qq_pure hR
  obtain ⟨h1, h2, h3⟩ := hR.2.2.2.2.2.2.1
  unfold fX10_lived fX11_lived
  have t3 : (3 : Int32).toInt = 3 := rfl
  rcases out_cases p1 0 3 with ⟨a, c, e⟩ | ⟨a, e⟩
  · rw [i_0] at a
    rw [t3] at c
    have n1 : ¬ p1 < 0 := by rw [i_lt, i_0]; omega
    have n2 : p1 ≤ 3 := by rw [i_le, t3]; omega
    rw [e, if_pos rfl, if_neg n1, if_pos n2]
    by_cases k : gi (sg 18) 2 = -1
    · rw [if_pos k, h1.mp k, if_pos rfl]; exact qq_ref 6
    · have k2 : gi M 36 = 1 := by
        rcases h2 with q | q
        · exact absurd (h1.mpr q) k
        · exact q
      obtain ⟨e0, e1, e2, e3, e4⟩ := h3 k2
      have n3 : ¬ (1 : Int32) = 0 := by decide
      rw [if_neg k, k2, if_neg n3, e0, e1, e2, bit_isb e4, e3]
      rcases i_4 a c with q | q | q | q <;> (subst q; exact qq_ans _)
  · rw [e, if_neg (by decide)]
    rw [i_0, t3] at a
    by_cases n1 : p1 < 0
    · rw [if_pos n1]; exact qq_ref 1
    · have n2 : ¬ p1 ≤ 3 := by rw [i_lt, i_0] at n1; rw [i_le, t3]; omega
      rw [if_neg n1, if_neg n2]; exact qq_ref 1
