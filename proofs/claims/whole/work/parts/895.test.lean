/-! ===== (B) a season's text: what is asked behind when ===== -/
theorem sgn_eq {t : Nat → Int32} {N e : Nat} {tk M : Rc} (h : G t N e tk M) {c : Int32} (hc : ¬ fX11_isSign c M = 0) : gi tk 9 = gi M 15 := by
  obtain ⟨-, ⟨a, -, -, -, -, -, -, ht⟩, -⟩ := h
  unfold fX11_isSign at hc
  rcases ht with ⟨-, q2, -⟩ | ⟨-, q2, -⟩ | ⟨-, -, -, q3, -⟩ | ⟨-, -, -, q3⟩
  · rw [q2, if_neg (by decide)] at hc; exact absurd rfl hc
  · rw [q2, if_neg (by decide)] at hc; exact absurd rfl hc
  · exact q3
  · exact q3
/-- a sign, then a number -/
theorem sign_num {t : Nat → Int32} {N e : Nat} {tk M z st : Rc} (h : G t N e tk M) {n R hi : Nat} {y : Int32} (hn : n < 60) (h5 : gi st 5 = nI n) (h2 : hi ≤ 9999) (hy : hi = if y = 28 then 64 else 60) (hR : 4160 ≤ R) (hR2 : R + 6 ≤ 6240) : (∃ (tk' M' : Rc) (σ : Int32), (fX6_readSign st tk z).bind (fun r17 => if r17.1 = (0 : Int32) then some ((0 : Int32), r17.2.1, r17.2.2) else (fX8_passNumber (0 : Int32) (nI hi) r17.2.1).bind (fun r20 => if r20.1 = (0 : Int32) then some ((0 : Int32), r20.2, r17.2.2) else some ((1 : Int32), r20.2, r17.2.2))) = some ((1 : Int32), tk', sa z 2 (upd (ga z 2) n σ)) ∧ fX11_test_J69 (nI R) y M = some ((1 : Int32), M') ∧ FK tk tk' ∧ FO R M M' ∧ (∃ e', e ≤ e' ∧ G t N e' tk' M') ∧ ga M' 0 (R + 2) = gi tk' 10 ∧ ga M' 0 (R + 5) = σ ∧ gi tk' 11 = gi tk 11 ∧ (∀ k, ¬ k = R + 2 → ¬ k = R + 5 → ga M' 0 k = ga M 0 k)) ∨ (∃ (tk' M' z' : Rc), (fX6_readSign st tk z).bind (fun r17 => if r17.1 = (0 : Int32) then some ((0 : Int32), r17.2.1, r17.2.2) else (fX8_passNumber (0 : Int32) (nI hi) r17.2.1).bind (fun r20 => if r20.1 = (0 : Int32) then some ((0 : Int32), r20.2, r17.2.2) else some ((1 : Int32), r20.2, r17.2.2))) = some ((0 : Int32), tk', z') ∧ FK tk tk' ∧ FP M M' ∧ ((fX11_test_J69 (nI R) y M = some ((1 : Int32), M') ∧ Y_ tk' M') ∨ (fX11_test_J69 (nI R) y M = some ((0 : Int32), M') ∧ X_ tk' M'))) := by
  have r5 : nI R + 5 = nI (R + 5) := by rw [show (5 : Int32) = nI 5 from rfl, nI_add]
  have r2 : nI R + 2 = nI (R + 2) := by rw [show (2 : Int32) = nI 2 from rfl, nI_add]
  have eJ : ∀ M1 : Rc, fX11_test_J102 (nI R) y M1 = (fX11_ahead (sa M1 0 (upd (ga M1 0) (R + 5) (gi M1 15)))).bind (fun r3 => fX11_number (nI (R + 2)) (nI 0) (nI hi) r3) := fun M1 => by
    unfold fX11_test_J102 lt_
    rw [r5, gd_pos (inbn (by omega) (by decide)), nI_clamp (by omega), r2]
    have id2 : ∀ o : Option (Int32 × Rc), o.bind (fun r => some (r.1, r.2)) = o := fun o => by cases o <;> rfl
    by_cases c : y = 28
    · rw [if_pos c] at hy
      simp only [if_pos c, hy, id2]
      rfl
    · rw [if_neg c] at hy
      simp only [if_neg c, hy, id2]
      rfl
  have go : gi tk 9 = gi M 15 → (∃ (tk' M' : Rc) (σ : Int32), (fX6_readSign_J45 st tk z).bind (fun r17 => if r17.1 = (0 : Int32) then some ((0 : Int32), r17.2.1, r17.2.2) else (fX8_passNumber (0 : Int32) (nI hi) r17.2.1).bind (fun r20 => if r20.1 = (0 : Int32) then some ((0 : Int32), r20.2, r17.2.2) else some ((1 : Int32), r20.2, r17.2.2))) = some ((1 : Int32), tk', sa z 2 (upd (ga z 2) n σ)) ∧ fX11_test_J102 (nI R) y M = some ((1 : Int32), M') ∧ FK tk tk' ∧ FO R M M' ∧ (∃ e', e ≤ e' ∧ G t N e' tk' M') ∧ ga M' 0 (R + 2) = gi tk' 10 ∧ ga M' 0 (R + 5) = σ ∧ gi tk' 11 = gi tk 11 ∧ (∀ k, ¬ k = R + 2 → ¬ k = R + 5 → ga M' 0 k = ga M 0 k)) ∨ (∃ (tk' M' z' : Rc), (fX6_readSign_J45 st tk z).bind (fun r17 => if r17.1 = (0 : Int32) then some ((0 : Int32), r17.2.1, r17.2.2) else (fX8_passNumber (0 : Int32) (nI hi) r17.2.1).bind (fun r20 => if r20.1 = (0 : Int32) then some ((0 : Int32), r20.2, r17.2.2) else some ((1 : Int32), r20.2, r17.2.2))) = some ((0 : Int32), tk', z') ∧ FK tk tk' ∧ FP M M' ∧ ((fX11_test_J102 (nI R) y M = some ((1 : Int32), M') ∧ Y_ tk' M') ∨ (fX11_test_J102 (nI R) y M = some ((0 : Int32), M') ∧ X_ tk' M'))) := fun h9 => by
    rw [eJ M]
    have hG0 : G t N e tk (sa M 0 (upd (ga M 0) (R + 5) (gi M 15))) := G_M h (fun _ _ _ => rfl) rfl
    have fo0 : FO R M (sa M 0 (upd (ga M 0) (R + 5) (gi M 15))) := FO_up M (by omega) (by omega) _
    unfold fX6_readSign_J45 lt_
    dsimp only
    rw [h5, gd_pos (inbn (by omega) (by decide)), nI_clamp (by omega)]
    obtain ⟨tk1, M1, m1, fa, fk, ⟨q1, fc, e1, he1, -, hG1⟩ | ⟨q1, hY⟩⟩ := adv_G hG0
    · rw [m1, q1, bs, bs, bs]
      dsimp only
      rw [i10]
      rcases num_O hG1 (R := R) (j := 2) (lo := 0) (by omega) h2 hR hR2 (by omega) with ⟨tk', M', p1, p2, fk3, fo3, ⟨e3, he3, hG3⟩, d1, d2, d3, d4⟩ | ⟨tk', M', p1, fk3, fp3, ⟨p2, hY⟩ | ⟨p2, hX⟩⟩
      · rw [show fX8_passNumber 0 (nI hi) tk1 = _ from p1, p2, bs]
        refine Or.inl ⟨tk', M', gi tk 9, rfl, rfl, FK_trans fk fk3, FO_trans fo0 (FO_trans (FO_FA R fa) fo3), ⟨e3, by omega, hG3⟩, d1, ?_, d3.trans (fc.2.2 11 (by omega)), fun k k1 k2 => ?_⟩
        · rw [d4 _ (by omega), FA_ga fa, ga_sa0, upd_eq, h9]
        · rw [d4 _ k1, FA_ga fa, ga_sa0, upd_ne _ _ k2]
      · rw [show fX8_passNumber 0 (nI hi) tk1 = _ from p1, p2, bs]
        exact Or.inr ⟨tk', M', _, rfl, FK_trans fk fk3, FP_trans (FO_FP hR fo0) (FP_trans (FA_FP fa) fp3), Or.inl ⟨rfl, hY⟩⟩
      · rw [show fX8_passNumber 0 (nI hi) tk1 = _ from p1, p2, bs]
        exact Or.inr ⟨tk', M', _, rfl, FK_trans fk fk3, FP_trans (FO_FP hR fo0) (FP_trans (FA_FP fa) fp3), Or.inr ⟨rfl, hX⟩⟩
    · obtain ⟨M2, s1, s2, s3⟩ := num_Y hY (nI (R + 2)) (nI 0) (nI hi)
      rw [m1, q1, bs, bs, bs, s1]
      exact Or.inr ⟨tk1, M2, _, rfl, fk, FP_trans (FO_FP hR fo0) (FP_trans (FA_FP fa) s2), Or.inr ⟨rfl, s3⟩⟩
  unfold fX6_readSign fX11_test_J69
  rw [sign_is h 60, sign_is h 62, sign_is h 61]
  by_cases c1 : fX11_isSign 60 M = 0
  · rw [if_pos c1, if_pos c1]
    by_cases c2 : fX11_isSign 62 M = 0
    · rw [if_pos c2, if_pos c2]
      by_cases c3 : fX11_isSign 61 M = 0
      · rw [if_pos c3, if_pos c3]
        obtain ⟨tk', M', q1, q2, q3, q4, q5⟩ := fail_G h (k := 2) (by decide) (by decide)
        unfold lt_
        rw [show fX8_fail 2 tk = _ from q1, show fX11_fails 2 M = _ from q2]
        exact Or.inr ⟨tk', M', z, rfl, q3, q4, Or.inr ⟨rfl, q5⟩⟩
      · rw [if_neg c3, if_neg c3]
        exact go (sgn_eq h c3)
    · rw [if_neg c2, if_neg c2]
      exact go (sgn_eq h c2)
  · rw [if_neg c1, if_neg c1]
    exact go (sgn_eq h c1)
