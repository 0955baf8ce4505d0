/-! ===== (B) a season's text: what is asked behind when ===== -/
theorem sgn_eq {t : Nat → Int32} {N e : Nat} {tk M : Rc} (h : G t N e tk M) {c : Int32} (hc : ¬ fX11_isSign c M = 0) : gi tk 9 = gi M 15 := by
  obtain ⟨-, ⟨a, -, -, -, -, -, -, ht⟩, -⟩ := h
  unfold fX11_isSign at hc
  rcases ht with ⟨-, q2, -⟩ | ⟨-, q2, -⟩ | ⟨-, -, -, q3, -⟩ | ⟨-, -, -, q3⟩
  · rw [q2, if_neg (by decide)] at hc; exact absurd rfl hc
  · rw [q2, if_neg (by decide)] at hc; exact absurd rfl hc
  · exact q3
  · exact q3
/-- a sign, then a number -/
theorem sign_num {t : Nat → Int32} {N e : Nat} {tk M z st : Rc} (h : G t N e tk M) {n R hi : Nat} {y : Int32} (hn : n < 60) (h5 : gi st 5 = nI n) (h2 : hi ≤ 9999) (hy : hi = if y = 28 then 64 else 60) (hR : 4160 ≤ R) (hR2 : R + 6 ≤ 6240) : (∃ (tk' M' : Rc) (σ : Int32), (fX6_readSign st tk z).bind (fun r17 => if r17.1 = (0 : Int32) then some ((0 : Int32), r17.2.1, r17.2.2) else (fX8_passNumber (0 : Int32) (nI hi) r17.2.1).bind (fun r20 => if r20.1 = (0 : Int32) then some ((0 : Int32), r20.2, r17.2.2) else some ((1 : Int32), r20.2, r17.2.2))) = some ((1 : Int32), tk', sa z 2 (upd (ga z 2) n σ)) ∧ fX11_test_J69 (nI R) y M = some ((1 : Int32), M') ∧ FK tk tk' ∧ FO R M M' ∧ (∃ e', e ≤ e' ∧ G t N e' tk' M') ∧ ga M' 0 (R + 2) = gi tk' 10 ∧ ga M' 0 (R + 5) = σ ∧ gi tk' 11 = gi tk 11 ∧ (∀ k, ¬ k = R + 2 → ¬ k = R + 5 → ga M' 0 k = ga M 0 k)) ∨ (∃ (tk' M' z' : Rc), (fX6_readSign st tk z).bind (fun r17 => if r17.1 = (0 : Int32) then some ((0 : Int32), r17.2.1, r17.2.2) else (fX8_passNumber (0 : Int32) (nI hi) r17.2.1).bind (fun r20 => if r20.1 = (0 : Int32) then some ((0 : Int32), r20.2, r17.2.2) else some ((1 : Int32), r20.2, r17.2.2))) = some ((0 : Int32), tk', z') ∧ FK tk tk' ∧ FP M M' ∧ ((fX11_test_J69 (nI R) y M = some ((1 : Int32), M') ∧ Y_ tk' M') ∨ (fX11_test_J69 (nI R) y M = some ((0 : Int32), M') ∧ X_ tk' M'))) := by
  have r5 : nI R + 5 = nI (R + 5) := by rw [show (5 : Int32) = nI 5 from rfl, nI_add]
  have r2 : nI R + 2 = nI (R + 2) := by rw [show (2 : Int32) = nI 2 from rfl, nI_add]
  have eJ : ∀ M1 : Rc, fX11_test_J102 (nI R) y M1 = (fX11_ahead (sa M1 0 (upd (ga M1 0) (R + 5) (gi M1 15)))).bind (fun r3 => fX11_number (nI (R + 2)) (nI 0) (nI hi) r3) := fun M1 => by
    unfold fX11_test_J102 lt_
    rw [r5, gd_pos (inbn (by omega) (by decide)), nI_clamp (by omega), r2]
    have id2 : ∀ o : Option (Int32 × Rc), o.bind (fun r => some (r.1, r.2)) = o := fun o => by cases o <;> rfl
    by_cases c : y = 28
    · rw [if_pos c] at hy
      simp only [if_pos c, hy, id2]
      rfl
    · rw [if_neg c] at hy
      simp only [if_neg c, hy, id2]
      rfl
  have go : gi tk 9 = gi M 15 → (∃ (tk' M' : Rc) (σ : Int32), (fX6_readSign_J45 st tk z).bind (fun r17 => if r17.1 = (0 : Int32) then some ((0 : Int32), r17.2.1, r17.2.2) else (fX8_passNumber (0 : Int32) (nI hi) r17.2.1).bind (fun r20 => if r20.1 = (0 : Int32) then some ((0 : Int32), r20.2, r17.2.2) else some ((1 : Int32), r20.2, r17.2.2))) = some ((1 : Int32), tk', sa z 2 (upd (ga z 2) n σ)) ∧ fX11_test_J102 (nI R) y M = some ((1 : Int32), M') ∧ FK tk tk' ∧ FO R M M' ∧ (∃ e', e ≤ e' ∧ G t N e' tk' M') ∧ ga M' 0 (R + 2) = gi tk' 10 ∧ ga M' 0 (R + 5) = σ ∧ gi tk' 11 = gi tk 11 ∧ (∀ k, ¬ k = R + 2 → ¬ k = R + 5 → ga M' 0 k = ga M 0 k)) ∨ (∃ (tk' M' z' : Rc), (fX6_readSign_J45 st tk z).bind (fun r17 => if r17.1 = (0 : Int32) then some ((0 : Int32), r17.2.1, r17.2.2) else (fX8_passNumber (0 : Int32) (nI hi) r17.2.1).bind (fun r20 => if r20.1 = (0 : Int32) then some ((0 : Int32), r20.2, r17.2.2) else some ((1 : Int32), r20.2, r17.2.2))) = some ((0 : Int32), tk', z') ∧ FK tk tk' ∧ FP M M' ∧ ((fX11_test_J102 (nI R) y M = some ((1 : Int32), M') ∧ Y_ tk' M') ∨ (fX11_test_J102 (nI R) y M = some ((0 : Int32), M') ∧ X_ tk' M'))) := fun h9 => by
    rw [eJ M]
    have hG0 : G t N e tk (sa M 0 (upd (ga M 0) (R + 5) (gi M 15))) := G_M h (fun _ _ _ => rfl) rfl
    have fo0 : FO R M (sa M 0 (upd (ga M 0) (R + 5) (gi M 15))) := FO_up M (by omega) (by omega) _
    unfold fX6_readSign_J45 lt_
    dsimp only
    rw [h5, gd_pos (inbn (by omega) (by decide)), nI_clamp (by omega)]
    obtain ⟨tk1, M1, m1, fa, fk, ⟨q1, fc, e1, he1, -, hG1⟩ | ⟨q1, hY⟩⟩ := adv_G hG0
    · rw [m1, q1, bs, bs, bs]
      dsimp only
      rw [i10]
      rcases num_O hG1 (R := R) (j := 2) (lo := 0) (by omega) h2 hR hR2 (by omega) with ⟨tk', M', p1, p2, fk3, fo3, ⟨e3, he3, hG3⟩, d1, d2, d3, d4⟩ | ⟨tk', M', p1, fk3, fp3, ⟨p2, hY⟩ | ⟨p2, hX⟩⟩
      · rw [show fX8_passNumber 0 (nI hi) tk1 = _ from p1, p2, bs]
        refine Or.inl ⟨tk', M', gi tk 9, rfl, rfl, FK_trans fk fk3, FO_trans fo0 (FO_trans (FO_FA R fa) fo3), ⟨e3, by omega, hG3⟩, d1, ?_, d3.trans (fc.2.2 11 (by omega)), fun k k1 k2 => ?_⟩
        · rw [d4 _ (by omega), FA_ga fa, ga_sa0, upd_eq, h9]
        · rw [d4 _ k1, FA_ga fa, ga_sa0, upd_ne _ _ k2]
      · rw [show fX8_passNumber 0 (nI hi) tk1 = _ from p1, p2, bs]
        exact Or.inr ⟨tk', M', _, rfl, FK_trans fk fk3, FP_trans (FO_FP hR fo0) (FP_trans (FA_FP fa) fp3), Or.inl ⟨rfl, hY⟩⟩
      · rw [show fX8_passNumber 0 (nI hi) tk1 = _ from p1, p2, bs]
        exact Or.inr ⟨tk', M', _, rfl, FK_trans fk fk3, FP_trans (FO_FP hR fo0) (FP_trans (FA_FP fa) fp3), Or.inr ⟨rfl, hX⟩⟩
    · obtain ⟨M2, s1, s2, s3⟩ := num_Y hY (nI (R + 2)) (nI 0) (nI hi)
      rw [m1, q1, bs, bs, bs, s1]
      exact Or.inr ⟨tk1, M2, _, rfl, fk, FP_trans (FO_FP hR fo0) (FP_trans (FA_FP fa) s2), Or.inr ⟨rfl, s3⟩⟩
  unfold fX6_readSign fX11_test_J69
  rw [sign_is h 60, sign_is h 62, sign_is h 61]
  by_cases c1 : fX11_isSign 60 M = 0
  · rw [if_pos c1, if_pos c1]
    by_cases c2 : fX11_isSign 62 M = 0
    · rw [if_pos c2, if_pos c2]
      by_cases c3 : fX11_isSign 61 M = 0
      · rw [if_pos c3, if_pos c3]
        obtain ⟨tk', M', q1, q2, q3, q4, q5⟩ := fail_G h (k := 2) (by decide) (by decide)
        unfold lt_
        rw [show fX8_fail 2 tk = _ from q1, show fX11_fails 2 M = _ from q2]
        exact Or.inr ⟨tk', M', z, rfl, q3, q4, Or.inr ⟨rfl, q5⟩⟩
      · rw [if_neg c3, if_neg c3]
        exact go (sgn_eq h c3)
    · rw [if_neg c2, if_neg c2]
      exact go (sgn_eq h c2)
  · rw [if_neg c1, if_neg c1]
    exact go (sgn_eq h c1)
theorem J69_Y {tk M : Rc} (h : Y_ tk M) (r y : Int32) : ∃ M', fX11_test_J69 r y M = some ((0 : Int32), M') ∧ FP M M' ∧ X_ tk M' := by
  obtain ⟨M', q1, q2, q3⟩ := fails_Y h 2
  refine ⟨M', ?_, q2, q3⟩
  unfold fX11_test_J69 fX11_isSign lt_
  rw [h.2.2.1, if_neg (show ¬ (1 : Int32) = 4 by decide), if_pos rfl, if_neg (show ¬ (1 : Int32) = 4 by decide), if_pos rfl, if_neg (show ¬ (1 : Int32) = 4 by decide), if_pos rfl, q1]
theorem tst_all : ∀ i, i < 30 → ((27 ≤ rk i) ↔ (i = 24 ∨ i = 25 ∨ i = 26)) ∧ rk i < 30 := by decide +kernel
/-- behind when -/
theorem ord_test {t : Nat → Int32} {N e : Nat} {tk M z b st : Rc} (h : G t N e tk M) {n R F : Nat} (hn : n < 60) (h5 : gi st 5 = nI n) (hF : F ≤ 8) (h8 : gi b 8 = nI F) (hN : NM b M F 0) (h0 : ga M 0 0 = nI F) (hR : 4160 ≤ R) (hR2 : R + 6 ≤ 6240) : ORD t N e tk M z n R F (fX6_readTest st tk z b) (fX11_test (nI R) M) := by
  obtain ⟨-, -, hk, hw⟩ := G_tok h
  have r1 : nI R + 1 = nI (R + 1) := by rw [show (1 : Int32) = nI 1 from rfl, nI_add]
  unfold fX6_readTest fX11_test lt_
  dsimp only
  rw [h5, gd_pos (inbn (by omega) (by decide)), nI_clamp (by omega), hw, bs]
  have bad : ¬ gi tk 8 = 24 → ¬ gi tk 8 = 25 → ¬ gi tk 8 = 26 → ¬ (27 : Int32) ≤ rki (gi tk 8) := fun a1 a2 a3 => by
    rcases hk with q | ⟨i, hi, q⟩
    · rw [q, rki_m1]; decide
    · rw [q, rki_n hi]
      obtain ⟨v1, v2⟩ := tst_all i hi
      refine nI_ge (b := 27) ?_ (by decide)
      rcases Nat.lt_or_ge (rk i) 27 with z | z
      · exact z
      · rcases v1.1 z with z | z | z
        · exact absurd (by rw [q, z]; rfl) a1
        · exact absurd (by rw [q, z]; rfl) a2
        · exact absurd (by rw [q, z]; rfl) a3
  have zz : ∀ x : Int32, sa z 0 (upd (ga z 0) n x) = zk z n x (ga z 2 n) := fun x => by
    unfold zk
    rw [upd_id _ _ rfl]
    exact (sa_id (sa z 0 (upd (ga z 0) n x)) 2).symm
  by_cases k1 : gi tk 8 = 24
  · rw [if_pos k1, k1, show rki 24 = 27 from rfl, if_pos (by decide), gd_pos (inbn (by omega) (by decide)), nI_clamp (by omega), show (2300 : Int32) + 27 = 2327 from rfl]
    have hG0 : G t N e tk (sa M 0 (upd (ga M 0) R 2327)) := G_M h (fun _ _ _ => rfl) rfl
    have fo0 : FO R M (sa M 0 (upd (ga M 0) R 2327)) := FO_up M (by omega) (by omega) _
    obtain ⟨tk1, M1, m1, fa, fk, ⟨q1, fc, e1, he1, -, hG1⟩ | ⟨q1, hY⟩⟩ := adv_G hG0
    · rw [m1, q1, bs, bs]
      dsimp only
      rw [i10, if_pos rfl, r1]
      rcases num_O hG1 (R := R) (j := 1) (lo := 0) (hi := 62) (by omega) (by omega) hR hR2 (by omega) with ⟨tk', M', p1, p2, fk3, fo3, ⟨e3, he3, hG3⟩, d1, d2, d3, d4⟩ | ⟨tk', M', p1, fk3, fp3, ⟨p2, hY⟩ | ⟨p2, hX⟩⟩
      · rw [show fX8_passNumber 0 62 tk1 = _ from p1, show fX11_number (nI (R + 1)) 0 62 M1 = _ from p2, bs, bs]
        refine Or.inl ⟨tk', M', 24, ga z 2 n, by rw [← zz]; rfl, rfl, FK_trans fk fk3, FO_trans fo0 (FO_trans (FO_FA R fa) fo3), ⟨e3, by omega, hG3⟩, ?_, ?_⟩
        · rw [d4 R (by omega), FA_ga fa, ga_sa0, upd_eq]; rfl
        · exact Or.inr (Or.inr (Or.inr (Or.inr (Or.inr (Or.inr (Or.inr (Or.inr (Or.inl ⟨rfl, d1, d2⟩))))))))
      · rw [show fX8_passNumber 0 62 tk1 = _ from p1, show fX11_number (nI (R + 1)) 0 62 M1 = _ from p2, bs, bs]
        exact Or.inr ⟨tk', M', _, rfl, FK_trans fk fk3, FP_trans (FO_FP hR fo0) (FP_trans (FA_FP fa) fp3), Or.inl ⟨rfl, hY⟩⟩
      · rw [show fX8_passNumber 0 62 tk1 = _ from p1, show fX11_number (nI (R + 1)) 0 62 M1 = _ from p2, bs, bs]
        exact Or.inr ⟨tk', M', _, rfl, FK_trans fk fk3, FP_trans (FO_FP hR fo0) (FP_trans (FA_FP fa) fp3), Or.inr ⟨rfl, hX⟩⟩
    · obtain ⟨M2, s1, s2, s3⟩ := num_Y hY (nI (R + 1)) 0 62
      rw [m1, q1, bs, bs]
      dsimp only
      rw [i00, if_pos rfl, r1, s1, bs]
      exact Or.inr ⟨tk1, M2, _, rfl, fk, FP_trans (FO_FP hR fo0) (FP_trans (FA_FP fa) s2), Or.inr ⟨rfl, s3⟩⟩
  · by_cases k2 : gi tk 8 = 25
    · rw [if_neg k1, if_pos k2, k2, show rki 25 = 28 from rfl, if_pos (by decide), gd_pos (inbn (by omega) (by decide)), nI_clamp (by omega), show (2300 : Int32) + 28 = 2328 from rfl]
      have hG0 : G t N e tk (sa M 0 (upd (ga M 0) R 2328)) := G_M h (fun _ _ _ => rfl) rfl
      have fo0 : FO R M (sa M 0 (upd (ga M 0) R 2328)) := FO_up M (by omega) (by omega) _
      obtain ⟨tk1, M1, m1, fa, fk, ⟨q1, fc, e1, he1, -, hG1⟩ | ⟨q1, hY⟩⟩ := adv_G hG0
      · rw [m1, q1, bs, bs]
        dsimp only
        rw [i10, if_neg (by decide), if_pos rfl, r1]
        have fo1 : FO R M M1 := FO_trans fo0 (FO_FA R fa)
        rcases old_O hG1 (R := R) (j := 1) hF h8 (NM_FO fo1 hN) (by rw [fo1.2.2.2.2 0 (by omega)]; exact h0) hR hR2 (by omega) with ⟨tk2, M2, u1, u2, fk2, fo2, ⟨e2, he2, hG2⟩, c1, c2, c4⟩ | ⟨tk2, M2, u1, fk2, fp2, ⟨u2, hY⟩ | ⟨u2, hX⟩⟩
        · rw [u1, u2, bs, bs]
          dsimp only
          rw [i10, i10]
          rcases sign_num (z := sa z 0 (upd (ga z 0) n 25)) (st := st) hG2 (n := n) (R := R) (hi := 64) (y := 28) hn h5 (by omega) rfl hR hR2 with ⟨tk', M', σ, p1, p2, fk3, fo3, ⟨e3, he3, hG3⟩, d1, d2, d3, d4⟩ | ⟨tk', M', z', p1, fk3, fp3, hh⟩
          · refine Or.inl ⟨tk', M', 25, σ, p1, p2, FK_trans fk (FK_trans fk2 fk3), FO_trans fo1 (FO_trans fo2 fo3), ⟨e3, by omega, hG3⟩, ?_, ?_⟩
            · rw [d4 R (by omega) (by omega), c4 R (by omega), FA_ga fa, ga_sa0, upd_eq]; rfl
            · refine Or.inr (Or.inr (Or.inr (Or.inr (Or.inr (Or.inr (Or.inr (Or.inr (Or.inr (Or.inl ⟨rfl, ?_, ?_, d1, d2⟩)))))))))
              · rw [d4 _ (by omega) (by omega), c1, d3]
              · rw [d3]; exact c2
          · exact Or.inr ⟨tk', M', z', p1, FK_trans fk (FK_trans fk2 fk3), FP_trans (FO_FP hR (FO_trans fo1 fo2)) fp3, hh⟩
        · obtain ⟨M3, s1, s2, s3⟩ := J69_Y hY (nI R) 28
          rw [u1, u2, bs, bs]
          dsimp only
          rw [i00, i10, s1]
          exact Or.inr ⟨tk2, M3, _, rfl, FK_trans fk fk2, FP_trans (FO_FP hR fo1) (FP_trans fp2 s2), Or.inr ⟨rfl, s3⟩⟩
        · rw [u1, u2, bs, bs]
          exact Or.inr ⟨tk2, M2, _, rfl, FK_trans fk fk2, FP_trans (FO_FP hR fo1) fp2, Or.inr ⟨rfl, hX⟩⟩
      · rw [m1, q1, bs, bs]
        dsimp only
        obtain ⟨M2, s1, s2, s3⟩ := old_Y hY 0 (ga M1 0 (0 : Int32).toNatClampNeg) (nI (R + 1))
        unfold fX11_farmerTo
        rw [i00, if_neg (by decide), if_pos rfl, r1, s1, bs, bs]
        exact Or.inr ⟨tk1, M2, _, rfl, fk, FP_trans (FO_FP hR fo0) (FP_trans (FA_FP fa) s2), Or.inr ⟨rfl, s3⟩⟩
    · by_cases k3 : gi tk 8 = 26
      · rw [if_neg k1, if_neg k2, if_pos k3, k3, show rki 26 = 29 from rfl, if_pos (by decide), gd_pos (inbn (by omega) (by decide)), nI_clamp (by omega), show (2300 : Int32) + 29 = 2329 from rfl]
        have hG0 : G t N e tk (sa M 0 (upd (ga M 0) R 2329)) := G_M h (fun _ _ _ => rfl) rfl
        have fo0 : FO R M (sa M 0 (upd (ga M 0) R 2329)) := FO_up M (by omega) (by omega) _
        obtain ⟨tk1, M1, m1, fa, fk, ⟨q1, fc, e1, he1, -, hG1⟩ | ⟨q1, hY⟩⟩ := adv_G hG0
        · rw [m1, q1, bs, bs]
          dsimp only
          rw [i10, if_neg (by decide), if_neg (by decide)]
          have fo1 : FO R M M1 := FO_trans fo0 (FO_FA R fa)
          rcases sign_num (z := sa z 0 (upd (ga z 0) n 26)) (st := st) hG1 (n := n) (R := R) (hi := 60) (y := 29) hn h5 (by omega) rfl hR hR2 with ⟨tk', M', σ, p1, p2, fk3, fo3, ⟨e3, he3, hG3⟩, d1, d2, d3, d4⟩ | ⟨tk', M', z', p1, fk3, fp3, hh⟩
          · refine Or.inl ⟨tk', M', 26, σ, p1, p2, FK_trans fk fk3, FO_trans fo1 fo3, ⟨e3, by omega, hG3⟩, ?_, ?_⟩
            · rw [d4 R (by omega) (by omega), FA_ga fa, ga_sa0, upd_eq]; rfl
            · exact Or.inr (Or.inr (Or.inr (Or.inr (Or.inr (Or.inr (Or.inr (Or.inr (Or.inr (Or.inr (Or.inl ⟨rfl, d1, d2⟩))))))))))
          · exact Or.inr ⟨tk', M', z', p1, FK_trans fk fk3, FP_trans (FO_FP hR fo1) fp3, hh⟩
        · obtain ⟨M3, s1, s2, s3⟩ := J69_Y hY (nI R) 29
          rw [m1, q1, bs, bs]
          dsimp only
          rw [i00, if_neg (by decide), if_neg (by decide), s1]
          exact Or.inr ⟨tk1, M3, _, rfl, fk, FP_trans (FO_FP hR fo0) (FP_trans (FA_FP fa) s2), Or.inr ⟨rfl, s3⟩⟩
      · rw [if_neg k1, if_neg k2, if_neg k3, if_neg (bad k1 k2 k3)]
        obtain ⟨tk', M', q1, q2, q3, q4, q5⟩ := fail_G h (k := 2) (by decide) (by decide)
        rw [show fX8_fail 2 tk = _ from q1, show fX11_fails 2 M = _ from q2]
        exact Or.inr ⟨tk', M', _, rfl, q3, q4, Or.inr ⟨rfl, q5⟩⟩
