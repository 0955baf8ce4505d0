/-! ===== (B) a bench's text: a farmer ===== -/
/-- a part's part that fails -/
def NO (tk M : Rc) (c : Option (Int32 × Rc × Rc)) (m : Option (Int32 × Rc)) : Prop := ∃ (tk' d' M' : Rc), c = some ((0 : Int32), tk', d') ∧ FK tk tk' ∧ FP M M' ∧ ((m = some ((1 : Int32), M') ∧ Y_ tk' M') ∨ (m = some ((0 : Int32), M') ∧ X_ tk' M'))
theorem iy6 (F j : Nat) : nI (4170 + 6 * F) + nI j = nI (4170 + 6 * F + j) := nI_add _ _
theorem J255_eq (M : Rc) {F : Nat} (hF : F < 8) (h0 : ga M 0 4160 = nI F) : fX11_aFarmer_J255 (nI (4170 + 6 * F)) M = some ((1 : Int32), sa M 0 (upd (upd (ga M 0) (4170 + 6 * F + 5) 64) 4160 (nI (F + 1)))) := by
  unfold fX11_aFarmer_J255 lt_
  have c40 : (4160 : Int32).toNatClampNeg = 4160 := rfl
  rw [show (5 : Int32) = nI 5 from rfl, iy6, gd_pos (inbn (by omega) (by decide)), nI_clamp (by omega), c40]
  dsimp only
  rw [sa_sa, ga_sa0, upd_ne _ _ (by omega), h0, nI_1]
theorem FP_g (M : Rc) (g : Nat → Int32) (h : ∀ k, k < 4160 → g k = ga M 0 k) : FP M (sa M 0 g) := ⟨fun _ _ _ _ _ => rfl, fun _ => rfl, fun j h1 => by rw [ga_sa, if_neg h1], fun _ _ => rfl, fun j hj => by rw [ga_sa0]; exact h j hj, fun _ _ => rfl⟩
/-- behind the numbers: what the reference does at a token that is none -/
theorem J220_Y {tk M : Rc} (h : Y_ tk M) {F : Nat} (hF : F < 8) (h0 : ga M 0 4160 = nI F) (z : Int32) : ∃ M', fX11_aFarmer_J220 (nI (4170 + 6 * F)) z (nI (4170 + 6 * F + 3)) M = some ((1 : Int32), M') ∧ FP M M' ∧ Y_ tk M' := by
  unfold fX11_aFarmer_J220 lt_
  dsimp only
  rw [gd_pos (inbn (by omega) (by decide)), nI_clamp (by omega), show (4 : Int32) = nI 4 from rfl, iy6, gd_pos (inbn (by omega) (by decide)), nI_clamp (by omega)]
  have hY2 : Y_ tk (sa (sa M 0 (upd (ga M 0) (4170 + 6 * F + 3) z)) 0 (upd (ga (sa M 0 (upd (ga M 0) (4170 + 6 * F + 3) z)) 0) (4170 + 6 * F + 4) 1000000)) := Y_M h (fun _ _ _ => rfl)
  rw [there_Y hY2 (by decide), bs]
  dsimp only
  rw [if_pos rfl, J255_eq _ hF (by rw [ga_sa0, upd_ne _ _ (by omega), ga_sa0, upd_ne _ _ (by omega)]; exact h0)]
  refine ⟨_, rfl, ?_, Y_M h (fun _ _ _ => rfl)⟩
  rw [sa_sa, sa_sa]
  exact FP_g M _ (fun k hk => by rw [upd_ne _ _ (by omega), upd_ne _ _ (by omega), ga_sa0, upd_ne _ _ (by omega), ga_sa0, upd_ne _ _ (by omega)])
theorem lag_part {t : Nat → Int32} {N e : Nat} {bt tk d M : Rc} {F : Nat} (h : G t N e tk M) (hF : F < 8) (hb : gi bt 2 = nI F) : (∃ (tk' M' : Rc) (lv : Int32), fX1_readLag bt tk d = some ((1 : Int32), tk', sa d 1 (upd (ga d 1) F lv)) ∧ (fX11_inWords M).bind (fun r50 => if r50 = (4 : Int32) then fX11_aFarmer_J106 (nI (4170 + 6 * F)) r50 M else if r50 = (5 : Int32) then fX11_aFarmer_J106 (nI (4170 + 6 * F)) r50 M else lt_ (fX11_fails (2 : Int32) M) (fun r53 => some (r53.1, r53.2))) = fX11_aFarmer_J149 (nI (4170 + 6 * F)) M' ∧ FK tk tk' ∧ (∃ e', e ≤ e' ∧ G t N e' tk' M') ∧ ga M' 0 = upd (ga M 0) (4170 + 6 * F) lv ∧ gb M' 1 = gb M 1 ∧ FP M M' ∧ gi M' 20 = gi M 20 ∧ nr lv (-3) 3) ∨ (∃ (tk' M' : Rc), fX1_readLag bt tk d = some ((0 : Int32), tk', d) ∧ FK tk tk' ∧ FP M M' ∧ (fX11_inWords M).bind (fun r50 => if r50 = (4 : Int32) then fX11_aFarmer_J106 (nI (4170 + 6 * F)) r50 M else if r50 = (5 : Int32) then fX11_aFarmer_J106 (nI (4170 + 6 * F)) r50 M else lt_ (fX11_fails (2 : Int32) M) (fun r53 => some (r53.1, r53.2))) = some ((0 : Int32), M') ∧ X_ tk' M') := by
  obtain ⟨-, -, hkw, hin⟩ := G_tok h
  rw [hin, bs]
  have h4 := rki_eq hkw (j := 1) (c := 4) (by decide) rfl
  have h5 := rki_eq hkw (j := 2) (c := 5) (by decide) rfl
  have go : ∀ (z : Bool) (kc : Nat), kc = (if z = true then 2 else 1) → gi tk 8 = nI kc → (∃ (tk' M' : Rc) (lv : Int32), fX1_readLag_J30 bt tk d (b1 z) (nI kc) = some ((1 : Int32), tk', sa d 1 (upd (ga d 1) F lv)) ∧ fX11_aFarmer_J106 (nI (4170 + 6 * F)) (nI (rk kc)) M = fX11_aFarmer_J149 (nI (4170 + 6 * F)) M' ∧ FK tk tk' ∧ (∃ e', e ≤ e' ∧ G t N e' tk' M') ∧ ga M' 0 = upd (ga M 0) (4170 + 6 * F) lv ∧ gb M' 1 = gb M 1 ∧ FP M M' ∧ gi M' 20 = gi M 20 ∧ nr lv (-3) 3) ∨ (∃ (tk' M' : Rc), fX1_readLag_J30 bt tk d (b1 z) (nI kc) = some ((0 : Int32), tk', d) ∧ FK tk tk' ∧ FP M M' ∧ fX11_aFarmer_J106 (nI (4170 + 6 * F)) (nI (rk kc)) M = some ((0 : Int32), M') ∧ X_ tk' M') := by
    intro z kc hkc hk
    unfold fX1_readLag_J30 fX8_passWord fX11_aFarmer_J106
    rw [if_pos hk]
    have hbit : fX10_bit (b1 z) = nI (if z = true then 1 else 0) := by cases z <;> rfl
    obtain ⟨tk1, M1, m1, fa, fk, ⟨q1, fc, e1, he1, -, hG1⟩ | ⟨q1, hY⟩⟩ := adv_G h
    · rw [m1, q1, bs, bs, bs]
      dsimp only
      rw [if_neg (show ¬ (1 : Int32) = 0 by decide), hbit]
      have hJ : (if nI (rk kc) = (4 : Int32) then fX11_aFarmer_J122 (nI (4170 + 6 * F)) (nI (rk kc)) (0 : Int32) (nI (4170 + 6 * F)) M1 else fX11_aFarmer_J122 (nI (4170 + 6 * F)) (nI (rk kc)) (1 : Int32) (nI (4170 + 6 * F)) M1) = fX11_aFarmer_J122 (nI (4170 + 6 * F)) (nI (rk kc)) (nI (if z = true then 1 else 0)) (nI (4170 + 6 * F)) M1 := by
        subst hkc
        cases z <;> rfl
      rw [hJ]
      unfold fX11_aFarmer_J122
      rw [show (3 : Int32) = nI 3 from rfl]
      have h5' : nI (rk kc) = (5 : Int32) ↔ z = true := by
        subst hkc
        cases z <;> decide
      rcases num3_G hG1 (lo := if z = true then 1 else 0) (hi := 3) (to := 4170 + 6 * F) (by split <;> decide) (by decide) (by omega) (by omega) with ⟨tk2, M2, v, u1, u2, fc2, fa2, u3, u4, e2, he2, hG2⟩ | ⟨tk2, M2, v, u1, u2, fk2, fa2, hY⟩ | ⟨tk2, M2, u1, u2, fk2, fp2, hX⟩
      · rw [u1, u2, bs, bs]
        dsimp only
        rw [if_neg (show ¬ (1 : Int32) = 0 by decide), if_neg (show ¬ (1 : Int32) = 0 by decide), hb, gd_pos (inbn hF (by decide)), gd_pos (inbn hF (by decide)), nI_clamp (by omega), show gi tk2 10 = nI v from fc2.2.2 10 (by omega)]
        have hA2 : ga M2 0 = upd (ga M 0) (4170 + 6 * F) (nI v) := by rw [FA_ga fa2, ga_sa0, FA_ga fa]
        have hB2 : gb M2 1 = gb M 1 := by rw [FA_gb fa2]; exact FA_gb fa 1
        have fk12 : FK tk tk2 := FK_trans fk (FK_trans (FK_si tk1 (k := 10) (by decide) _) (FC_FK fc2))
        have fp12 : FP M M2 := FP_trans (FA_FP fa) (FP_trans (FP_up M1 (by omega) _) (FA_FP fa2))
        have g20 : gi M2 20 = gi M 20 := (fa2.2 20 (by omega)).trans (fa.2 20 (by omega))
        left
        cases z with
        | false =>
          rw [if_pos (show b1 false = 0 from rfl), if_neg (fun w => by have := h5'.mp w; cases this)]
          exact ⟨tk2, M2, nI v, rfl, rfl, fk12, ⟨e2, by omega, hG2⟩, hA2, hB2, fp12, g20, by unfold nr; rw [nI_toInt (by omega)]; omega⟩
        | true =>
          rw [if_neg (show ¬ b1 true = 0 by decide), if_pos (h5'.mpr rfl), gd_pos (inbn (by omega) (by decide)), nI_clamp (by omega)]
          unfold lt_
          have e0 : ga M2 0 (4170 + 6 * F) = nI v := by rw [hA2, upd_eq]
          rw [e0]
          refine ⟨tk2, sa M2 0 (upd (ga M2 0) (4170 + 6 * F) (-(nI v))), -(nI v), rfl, rfl, fk12, ⟨e2, by omega, G_M hG2 (fun _ _ _ => rfl) rfl⟩, by rw [ga_sa0, hA2, upd_upd], hB2, FP_trans fp12 (FP_up M2 (by omega) _), g20, ?_⟩
          unfold nr
          have hv3 : (nI v).toInt = (v : Int) := nI_toInt (by omega)
          rw [i_neg (by omega), hv3]
          omega
      · rw [u1, u2, bs, bs]
        dsimp only
        rw [if_pos rfl, if_neg (show ¬ (1 : Int32) = 0 by decide)]
        right
        have fp12 : FP M M2 := FP_trans (FA_FP fa) (FP_trans (FP_up M1 (by omega) _) (FA_FP fa2))
        by_cases w : nI (rk kc) = (5 : Int32)
        · rw [if_pos w, gd_pos (inbn (by omega) (by decide)), nI_clamp (by omega)]
          unfold lt_ fX11_aFarmer_J149
          dsimp only
          obtain ⟨M', z1, z2, z3⟩ := word_Y (M := sa M2 0 (upd (ga M2 0) (4170 + 6 * F) (-(ga M2 0 (4170 + 6 * F))))) (Y_M hY (fun _ _ _ => rfl)) (c := 6) (by decide)
          rw [z1, bs]
          dsimp only
          rw [if_pos rfl]
          exact ⟨tk2, M', rfl, FK_trans fk fk2, FP_trans fp12 (FP_trans (FP_up M2 (by omega) _) z2), rfl, z3⟩
        · rw [if_neg w]
          unfold fX11_aFarmer_J149
          obtain ⟨M', z1, z2, z3⟩ := word_Y hY (c := 6) (by decide)
          rw [z1, bs]
          dsimp only
          rw [if_pos rfl]
          exact ⟨tk2, M', rfl, FK_trans fk fk2, FP_trans fp12 z2, rfl, z3⟩
      · rw [u1, u2, bs, bs]
        dsimp only
        rw [if_pos rfl, if_pos rfl]
        exact Or.inr ⟨tk2, M2, rfl, FK_trans fk fk2, FP_trans (FA_FP fa) fp2, rfl, hX⟩
    · rw [m1, q1, bs, bs, bs]
      dsimp only
      rw [if_pos rfl]
      right
      have hno : ∀ x y : Int32, ∃ M', fX11_aFarmer_J122 (nI (4170 + 6 * F)) (nI (rk kc)) x y M1 = some ((0 : Int32), M') ∧ FP M1 M' ∧ X_ tk1 M' := by
        intro x y
        obtain ⟨M', z1, z2, z3⟩ := num_Y hY y x 3
        refine ⟨M', ?_, z2, z3⟩
        unfold fX11_aFarmer_J122
        rw [z1, bs]
        rfl
      by_cases w : nI (rk kc) = (4 : Int32)
      · rw [if_pos w]
        obtain ⟨M', z1, z2, z3⟩ := hno 0 (nI (4170 + 6 * F))
        exact ⟨tk1, M', rfl, fk, FP_trans (FA_FP fa) z2, z1, z3⟩
      · rw [if_neg w]
        obtain ⟨M', z1, z2, z3⟩ := hno 1 (nI (4170 + 6 * F))
        exact ⟨tk1, M', rfl, fk, FP_trans (FA_FP fa) z2, z1, z3⟩
  unfold fX1_readLag fX1_readLag_J16
  by_cases c2 : gi tk 8 = 2
  · rw [if_pos c2, if_neg (show ¬ (1 : Int32) = 0 by decide), c2, show rki 2 = nI (rk 2) from rfl, if_neg (show ¬ nI (rk 2) = 4 by decide), if_pos (show nI (rk 2) = 5 from rfl)]
    exact go true 2 rfl c2
  · rw [if_neg c2, if_pos (show (0 : Int32) = 0 from rfl)]
    by_cases c1 : gi tk 8 = 1
    · rw [c1, show rki 1 = nI (rk 1) from rfl, if_pos (show nI (rk 1) = 4 from rfl)]
      exact go false 1 rfl c1
    · rw [if_neg (fun z => c1 (h4.mp z)), if_neg (fun z => c2 (h5.mp z))]
      right
      unfold fX1_readLag_J30 fX8_passWord lt_
      rw [if_neg c1]
      obtain ⟨tk', M', z1, z2, z3, z4, z5⟩ := fail_G h (k := 2) (by decide) (by decide)
      rw [show fX8_fail 2 tk = _ from z1, show fX11_fails 2 M = _ from z2, bs]
      exact ⟨tk', M', rfl, z3, z4, rfl, z5⟩
theorem knee_part {t : Nat → Int32} {N e : Nat} {bt tk d M : Rc} {F : Nat} (h : G t N e tk M) (hF : F < 8) (hb : gi bt 2 = nI F) (h0 : ga M 0 4160 = nI F) : (∃ (tk' M' : Rc) (fv sv : Nat) (el : Bool), fX1_readKnee bt tk d = some ((1 : Int32), tk', si (sa (sa d 2 (upd (ga d 2) F (nI fv))) 3 (upd (ga d 3) F (nI sv))) 13 (if el = true then gi d 13 ||| nI (2 ^ F) else gi d 13)) ∧ fX11_aFarmer_J149 (nI (4170 + 6 * F)) M = fX11_aFarmer_J220 (nI (4170 + 6 * F)) (b1 el) (nI (4170 + 6 * F + 3)) M' ∧ FK tk tk' ∧ (∃ e', e ≤ e' ∧ G t N e' tk' M') ∧ ga M' 0 = upd (upd (ga M 0) (4170 + 6 * F + 1) (nI fv)) (4170 + 6 * F + 2) (nI sv) ∧ gb M' 1 = gb M 1 ∧ FP M M' ∧ gi M' 20 = gi M 20 ∧ fv ≤ 16 ∧ sv ≤ 16) ∨ NO tk M (fX1_readKnee bt tk d) (fX11_aFarmer_J149 (nI (4170 + 6 * F)) M) := by
  have no : ∀ (tk' M' : Rc) (d' : Rc) (c : Option (Int32 × Rc × Rc)) (m : Option (Int32 × Rc)), c = some ((0 : Int32), tk', d') → m = some ((0 : Int32), M') → FK tk tk' → FP M M' → X_ tk' M' → NO tk M c m := fun tk' M' d' c m hc hm h1 h2 h3 => ⟨tk', d', M', hc, h1, h2, Or.inr ⟨hm, h3⟩⟩
  unfold fX1_readKnee fX11_aFarmer_J149
  rw [show (6 : Int32) = nI (rk 3) from rfl, show (7 : Int32) = nI (rk 4) from rfl, show (16 : Int32) = nI 16 from rfl, show (3 : Int32) = nI 3 from rfl, show (4 : Int32) = nI 4 from rfl, show (8 : Int32) = nI (rk 5) from rfl, show (1 : Int32) = nI 1 from rfl, show (2 : Int32) = nI 2 from rfl, show (0 : Int32) = nI 0 from rfl, iy6, iy6, iy6]
  have e1 : ¬ (1 : Int32) = nI 0 := by decide
  have e0 : (0 : Int32) = nI 0 := rfl
  rcases word_G h (j := 3) (by decide) with ⟨tk1, M1, p1, p2, fc1, fa1, e1', he1, hG1⟩ | ⟨tk1, M1, p1, fk1, fp1, ⟨p2, hY⟩ | ⟨p2, hX⟩⟩
  · rw [p1, p2, bs, bs]
    dsimp only
    rw [if_neg e1, if_neg e1]
    have fk1 := FC_FK fc1
    have fp1 := FA_FP fa1
    rcases num3_G hG1 (lo := 0) (hi := 16) (to := 4170 + 6 * F + 1) (by decide) (by decide) (by omega) (by omega) with ⟨tk2, M2, fv, u1, u2, fc2, fa2, u3, u4, e2, he2, hG2⟩ | ⟨tk2, M2, v, u1, u2, fk2, fa2, hY⟩ | ⟨tk2, M2, u1, u2, fk2, fp2, hX⟩
    · rw [u1, u2, bs, bs]
      dsimp only
      rw [if_neg e1, if_neg e1, hb, gd_pos (inbn hF (by decide)), nI_clamp (by omega), show gi tk2 10 = nI fv from fc2.2.2 10 (by omega)]
      unfold lt_
      dsimp only
      have fk2 : FK tk tk2 := FK_trans fk1 (FK_trans (FK_si tk1 (k := 10) (by decide) _) (FC_FK fc2))
      have fp2 : FP M M2 := FP_trans fp1 (FP_trans (FP_up M1 (by omega) _) (FA_FP fa2))
      have hA2 : ga M2 0 = upd (ga M 0) (4170 + 6 * F + 1) (nI fv) := by rw [FA_ga fa2, ga_sa0, FA_ga fa1]
      have hB2 : gb M2 1 = gb M 1 := by rw [FA_gb fa2]; exact FA_gb fa1 1
      have g2 : gi M2 20 = gi M 20 := (fa2.2 20 (by omega)).trans (fa1.2 20 (by omega))
      rcases word_G hG2 (j := 4) (by decide) with ⟨tk3, M3, p3, p4, fc3, fa3, e3, he3, hG3⟩ | ⟨tk3, M3, p3, fk3, fp3, ⟨p4, hY⟩ | ⟨p4, hX⟩⟩
      · rw [p3, p4, bs, bs]
        dsimp only
        rw [if_neg e1, if_neg e1]
        have fk3 : FK tk tk3 := FK_trans fk2 (FC_FK fc3)
        have fp3 : FP M M3 := FP_trans fp2 (FA_FP fa3)
        rcases num3_G hG3 (lo := 0) (hi := 16) (to := 4170 + 6 * F + 2) (by decide) (by decide) (by omega) (by omega) with ⟨tk4, M4, sv, u5, u6, fc4, fa4, u7, u8, e4, he4, hG4⟩ | ⟨tk4, M4, v, u5, u6, fk4, fa4, hY⟩ | ⟨tk4, M4, u5, u6, fk4, fp4, hX⟩
        · rw [u5, u6, bs, bs]
          dsimp only
          rw [if_neg e1, if_neg e1, show gi tk4 10 = nI sv from fc4.2.2 10 (by omega)]
          have fk4 : FK tk tk4 := FK_trans fk3 (FK_trans (FK_si tk3 (k := 10) (by decide) _) (FC_FK fc4))
          have fp4 : FP M M4 := FP_trans fp3 (FP_trans (FP_up M3 (by omega) _) (FA_FP fa4))
          have hA4 : ga M4 0 = upd (upd (ga M 0) (4170 + 6 * F + 1) (nI fv)) (4170 + 6 * F + 2) (nI sv) := by rw [FA_ga fa4, ga_sa0, FA_ga fa3, hA2]
          have hB4 : gb M4 1 = gb M 1 := by rw [FA_gb fa4]; exact (FA_gb fa3 1).trans hB2
          have g4 : gi M4 20 = gi M 20 := (fa4.2 20 (by omega)).trans ((fa3.2 20 (by omega)).trans g2)
          rcases there_G hG4 (j := 5) (by decide) with ⟨k5, tk5, M5, p5, fa5, fk5, ⟨q1, fc5, e5, he5, hG5⟩ | ⟨q1, hY⟩⟩ | ⟨k5, p5⟩
          · left
            rw [p5, bs]
            dsimp only
            rw [if_neg e1, if_pos (show gi tk4 8 = 5 from k5), q1, bs, show nI 1 <<< (nI F &&& 31) = nI (2 ^ F) from nx_one F (by omega)]
            exact ⟨tk5, M5, fv, sv, true, rfl, rfl, FK_trans fk4 fk5, ⟨e5, by omega, hG5⟩, by rw [FA_ga fa5]; exact hA4, (FA_gb fa5 1).trans hB4, FP_trans fp4 (FA_FP fa5), (fa5.2 20 (by omega)).trans g4, u4, u8⟩
          · right
            rw [p5, bs]
            dsimp only
            rw [if_neg e1, if_pos (show gi tk4 8 = 5 from k5), q1, bs]
            obtain ⟨M', z1, z2, z3⟩ := J220_Y hY hF (by rw [FA_ga fa5, hA4, upd_ne _ _ (by omega), upd_ne _ _ (by omega)]; exact h0) (nI 1)
            rw [z1]
            exact ⟨tk5, _, M', rfl, FK_trans fk4 fk5, FP_trans fp4 (FP_trans (FA_FP fa5) z2), Or.inl ⟨rfl, z3⟩⟩
          · left
            rw [p5, bs]
            dsimp only
            rw [if_pos e0, if_neg (show ¬ gi tk4 8 = 5 from k5)]
            refine ⟨tk4, M4, fv, sv, false, ?_, rfl, fk4, ⟨e4, by omega, hG4⟩, hA4, hB4, fp4, g4, u4, u8⟩
            rw [if_neg (show ¬ (false = true) by decide), si_id _ 13 (show gi (sa (sa d 2 (upd (ga d 2) F (nI fv))) 3 (upd (ga d 3) F (nI sv))) 13 = gi d 13 from rfl)]
            rfl
        · right
          rw [u5, u6, bs, bs]
          dsimp only
          rw [if_pos e0, if_neg e1, there_Y hY (by decide), bs]
          dsimp only
          rw [if_pos e0]
          obtain ⟨M', z1, z2, z3⟩ := J220_Y hY hF (by rw [FA_ga fa4, ga_sa0, upd_ne _ _ (by omega), FA_ga fa3, hA2, upd_ne _ _ (by omega)]; exact h0) (nI 0)
          rw [z1]
          exact ⟨tk4, _, M', rfl, FK_trans fk3 fk4, FP_trans fp3 (FP_trans (FP_trans (FP_up M3 (by omega) _) (FA_FP fa4)) z2), Or.inl ⟨rfl, z3⟩⟩
        · right
          rw [u5, u6, bs, bs]
          dsimp only
          rw [if_pos e0, if_pos e0]
          exact no _ _ _ _ _ rfl rfl (FK_trans fk3 fk4) (FP_trans fp3 fp4) hX
      · right
        rw [p3, p4, bs, bs]
        dsimp only
        rw [if_pos e0, if_neg e1]
        obtain ⟨M', z1, z2, z3⟩ := num_Y hY (nI (4170 + 6 * F + 2)) (nI 0) (nI 16)
        rw [z1, bs]
        dsimp only
        rw [if_pos e0]
        exact no _ _ _ _ _ rfl rfl (FK_trans fk2 fk3) (FP_trans fp2 (FP_trans fp3 z2)) z3
      · right
        rw [p3, p4, bs, bs]
        dsimp only
        rw [if_pos e0, if_pos e0]
        exact no _ _ _ _ _ rfl rfl (FK_trans fk2 fk3) (FP_trans fp2 fp3) hX
    · right
      rw [u1, u2, bs, bs]
      dsimp only
      rw [if_pos e0, if_neg e1]
      obtain ⟨M', z1, z2, z3⟩ := word_Y hY (c := nI (rk 4)) (by decide)
      rw [z1, bs]
      dsimp only
      rw [if_pos e0]
      exact no _ _ _ _ _ rfl rfl (FK_trans fk1 fk2) (FP_trans fp1 (FP_trans (FP_trans (FP_up M1 (by omega) _) (FA_FP fa2)) z2)) z3
    · right
      rw [u1, u2, bs, bs]
      dsimp only
      rw [if_pos e0, if_pos e0]
      exact no _ _ _ _ _ rfl rfl (FK_trans fk1 fk2) (FP_trans fp1 fp2) hX
  · right
    rw [p1, p2, bs, bs]
    dsimp only
    rw [if_pos e0, if_neg e1]
    obtain ⟨M', z1, z2, z3⟩ := num_Y hY (nI (4170 + 6 * F + 1)) (nI 0) (nI 16)
    rw [z1, bs]
    dsimp only
    rw [if_pos e0]
    exact no _ _ _ _ _ rfl rfl fk1 (FP_trans fp1 z2) z3
  · right
    rw [p1, p2, bs, bs]
    dsimp only
    rw [if_pos e0, if_pos e0]
    exact no _ _ _ _ _ rfl rfl fk1 fp1 hX
