/-! ===== (B) a season's text: the rest of a step ===== -/
theorem ord_all {t : Nat → Int32} {N e : Nat} {tk M z b st : Rc} (h : G t N e tk M) {n R F i : Nat} (hi : i < 30) (hn : n < 60) (h5 : gi st 5 = nI n) (hz : ga z 0 n = nI i) (hs : fX6_isStep (nI i) = 1) (hM : ga M 0 R = nI (rk i)) (hF : F ≤ 8) (h8 : gi b 8 = nI F) (hN : NM b M F 0) (h0 : ga M 0 0 = nI F) (hR : 4160 ≤ R) (hR2 : R + 6 ≤ 6240) : ORD t N e tk M z n R F (fX6_readRest st tk z b) (fX11_seasonOrder (nI (rk i)) (nI R) M) := by
  have r1 : nI R + 1 = nI (R + 1) := by rw [show (1 : Int32) = nI 1 from rfl, nI_add]
  have r2 : nI R + 2 = nI (R + 2) := by rw [show (2 : Int32) = nI 2 from rfl, nI_add]
  unfold fX6_readRest fX11_seasonOrder
  rw [h5, gd_pos (inbn (by omega) (by decide)), nI_clamp (by omega), hz, r1, r2]
  have ne : ∀ a : Nat, a < 30 → ¬ i = a → ¬ nI i = nI a := fun a ha hia he => hia (by
    have := congrArg Int32.toInt he
    rw [nI_toInt (by omega), nI_toInt (by omega)] at this
    omega)
  have neR : ∀ a : Nat, a < 30 → ¬ i = a → ¬ nI (rk i) = nI (rk a) := fun a ha hia he => by
    have q1 := (ki_rk i hi).2
    have q2 := (ki_rk a ha).2
    have := congrArg Int32.toInt he
    rw [nI_toInt (by omega), nI_toInt (by omega)] at this
    exact hia ((rk_inj i hi a ha).1 (by omega))
  by_cases k14 : i = 14
  · subst k14
    rw [if_pos (show nI 14 = 14 from rfl), if_pos (show nI (rk 14) = 14 from rfl)]
    exact ord_num h (lo := 0) (hi := 16) (by omega) (by omega) hR hR2 (fun v f M' a1 a2 a3 => ⟨by rw [a1, hM, hz]; rfl, Or.inl ⟨hz, a2, a3⟩⟩)
  rw [if_neg (show ¬ nI i = 14 from ne 14 (by omega) k14), if_neg (show ¬ nI (rk i) = 14 from neR 14 (by omega) k14)]
  by_cases k18 : i = 18
  · subst k18
    rw [if_pos (show nI 18 = 18 from rfl), if_pos (show nI (rk 18) = 18 from rfl)]
    exact ord_fwn h (lo := 0) (hi := 59) hF h8 hN h0 (by omega) (by omega) hR hR2 (fun v f M' a1 a2 a3 a4 a5 => ⟨by rw [a1, hM, hz]; rfl, Or.inr (Or.inr (Or.inr (Or.inr (Or.inl ⟨hz, a2, a3, a4, a5⟩))))⟩)
  rw [if_neg (show ¬ nI i = 18 from ne 18 (by omega) k18), if_neg (show ¬ nI (rk i) = 18 from neR 18 (by omega) k18)]
  by_cases k20 : i = 20
  · subst k20
    rw [if_pos (show nI 20 = 20 from rfl), if_pos (show nI (rk 20) = 19 from rfl)]
    exact ord_fwn h (lo := 0) (hi := 60) hF h8 hN h0 (by omega) (by omega) hR hR2 (fun v f M' a1 a2 a3 a4 a5 => ⟨by rw [a1, hM, hz]; rfl, Or.inr (Or.inr (Or.inr (Or.inr (Or.inr (Or.inl ⟨hz, a2, a3, a4, a5⟩)))))⟩)
  rw [if_neg (show ¬ nI i = 20 from ne 20 (by omega) k20), if_neg (show ¬ nI (rk i) = 19 from neR 20 (by omega) k20)]
  by_cases k21 : i = 21
  · subst k21
    rw [if_pos (show nI 21 = 21 from rfl), if_pos (show nI (rk 21) = 20 from rfl)]
    exact ord_fn h (lo := 0) (hi := 16) hF h8 hN h0 (by omega) (by omega) hR hR2 (fun v f M' a1 a2 a3 a4 a5 => ⟨by rw [a1, hM, hz]; rfl, Or.inr (Or.inr (Or.inr (Or.inr (Or.inr (Or.inr (Or.inl ⟨hz, a2, a3, a4, a5⟩))))))⟩)
  rw [if_neg (show ¬ nI i = 21 from ne 21 (by omega) k21), if_neg (show ¬ nI (rk i) = 20 from neR 21 (by omega) k21)]
  by_cases k22 : i = 22
  · subst k22
    rw [if_pos (show nI 22 = 22 from rfl), if_pos (show nI (rk 22) = 21 from rfl)]
    exact ord_num h (lo := 0) (hi := 59) (by omega) (by omega) hR hR2 (fun v f M' a1 a2 a3 => ⟨by rw [a1, hM, hz]; rfl, Or.inr (Or.inr (Or.inr (Or.inr (Or.inr (Or.inr (Or.inr (Or.inl ⟨hz, a2, a3⟩)))))))⟩)
  rw [if_neg (show ¬ nI i = 22 from ne 22 (by omega) k22), if_neg (show ¬ nI (rk i) = 21 from neR 22 (by omega) k22)]
  by_cases k23 : i = 23
  · subst k23
    rw [if_pos (show nI 23 = 23 from rfl), if_pos (show nI (rk 23) = 23 from rfl)]
    have e1 : ∀ o : Option (Int32 × Rc × Rc), o.bind (fun r => some (r.1, r.2.1, r.2.2)) = o := fun o => by cases o <;> rfl
    have e2 : ∀ o : Option (Int32 × Rc), o.bind (fun r => some (r.1, r.2)) = o := fun o => by cases o <;> rfl
    rw [e1, e2]
    exact ord_test h hn h5 hF h8 hN h0 hR hR2
  rw [if_neg (show ¬ nI i = 23 from ne 23 (by omega) k23), if_neg (show ¬ nI (rk i) = 23 from neR 23 (by omega) k23)]
  by_cases k27 : i = 27
  · subst k27
    rw [if_pos (show nI 27 = 27 from rfl), if_pos (show nI (rk 27) = 24 from rfl)]
    exact ord_num h (lo := 1) (hi := 99) (by omega) (by omega) hR hR2 (fun v f M' a1 a2 a3 => ⟨by rw [a1, hM, hz]; rfl, Or.inr (Or.inr (Or.inr (Or.inr (Or.inr (Or.inr (Or.inr (Or.inr (Or.inr (Or.inr (Or.inr (Or.inl ⟨hz, a2, a3⟩)))))))))))⟩)
  rw [if_neg (show ¬ nI i = 27 from ne 27 (by omega) k27), if_neg (show ¬ nI (rk i) = 24 from neR 27 (by omega) k27)]
  have st_all : ∀ i, i < 30 → (¬ fX6_isStep (nI i) = 1 ∨ (i = 14 ∨ i = 18 ∨ i = 20 ∨ i = 21 ∨ i = 22 ∨ i = 23 ∨ i = 27) ∨ (i = 15 ∨ i = 16 ∨ i = 17 ∨ i = 29)) := by
    unfold fX6_isStep
    decide +kernel
  refine Or.inl ⟨tk, M, ga z 0 n, ga z 2 n, by rw [zk_id], rfl, FK_refl _, FO_refl _ _, ⟨e, Nat.le_refl _, h⟩, ?_⟩
  rw [hz]
  have q4 : i = 15 ∨ i = 16 ∨ i = 17 ∨ i = 29 := by
    rcases st_all i hi with q | q | q
    · exact absurd hs q
    · omega
    · exact q
  rcases q4 with q | q | q | q
  · subst q; exact ⟨hM, Or.inr (Or.inl rfl)⟩
  · subst q; exact ⟨hM, Or.inr (Or.inr (Or.inl rfl))⟩
  · subst q; exact ⟨hM, Or.inr (Or.inr (Or.inr (Or.inl rfl)))⟩
  · subst q; exact ⟨hM, Or.inr (Or.inr (Or.inr (Or.inr (Or.inr (Or.inr (Or.inr (Or.inr (Or.inr (Or.inr (Or.inr (Or.inr rfl)))))))))))⟩
