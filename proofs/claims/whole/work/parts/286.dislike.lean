/-! ===== (B) a bench's text: dislikes ===== -/
/-- a number, told apart -/
theorem num3_G {t : Nat → Int32} {N e : Nat} {tk M : Rc} (h : G t N e tk M) {lo hi to : Nat} (h1 : lo ≤ 9999) (h2 : hi ≤ 9999) (h3 : 4160 ≤ to) (h4 : to < 6240) : (∃ (tk' M' : Rc) (v : Nat), fX8_passNumber (nI lo) (nI hi) tk = some ((1 : Int32), tk') ∧ fX11_number (nI to) (nI lo) (nI hi) M = some ((1 : Int32), M') ∧ FC (si tk 10 (nI v)) tk' ∧ FA (sa M 0 (upd (ga M 0) to (nI v))) M' ∧ lo ≤ v ∧ v ≤ hi ∧ ∃ e', e ≤ e' ∧ G t N e' tk' M') ∨ (∃ (tk' M' : Rc) (v : Nat), fX8_passNumber (nI lo) (nI hi) tk = some ((0 : Int32), tk') ∧ fX11_number (nI to) (nI lo) (nI hi) M = some ((1 : Int32), M') ∧ FK tk tk' ∧ FA (sa M 0 (upd (ga M 0) to (nI v))) M' ∧ Y_ tk' M') ∨ (∃ (tk' M' : Rc), fX8_passNumber (nI lo) (nI hi) tk = some ((0 : Int32), tk') ∧ fX11_number (nI to) (nI lo) (nI hi) M = some ((0 : Int32), M') ∧ FK tk tk' ∧ FP M M' ∧ X_ tk' M') := by
  have hG := h
  obtain ⟨hT, ⟨a, -, -, -, -, -, -, ht⟩, -⟩ := h
  unfold fX8_passNumber fX11_number fX10_outside lt_
  rcases ht with ⟨q1, q2, -⟩ | ⟨q1, q2, -⟩ | ⟨q1, q2, -, q3, q4, q5⟩ | ⟨q1, q2, -⟩
  · obtain ⟨tk', M', z1, z2, z3, z4, z5⟩ := fail_G hG (k := 2) (by decide) (by decide)
    rw [q1, q2, if_neg (by decide), if_neg (by decide), show fX8_fail 2 tk = _ from z1, show fX11_fails 2 M = _ from z2]
    exact Or.inr (Or.inr ⟨tk', M', rfl, rfl, z3, z4, z5⟩)
  · obtain ⟨tk', M', z1, z2, z3, z4, z5⟩ := fail_G hG (k := 2) (by decide) (by decide)
    rw [q1, q2, if_neg (by decide), if_neg (by decide), show fX8_fail 2 tk = _ from z1, show fX11_fails 2 M = _ from z2]
    exact Or.inr (Or.inr ⟨tk', M', rfl, rfl, z3, z4, z5⟩)
  · rw [q1, q2, if_pos rfl, if_pos rfl, ← q3]
    obtain ⟨v, hv, ev⟩ : ∃ v : Nat, v ≤ 9999 ∧ gi tk 9 = nI v := ⟨(gi tk 9).toInt.toNat, by omega, i_nat q4⟩
    rw [ev]
    obtain ⟨tk', M', z1, z2, z3, z4, z5⟩ := fail_G hG (k := 4) (by decide) (by decide)
    by_cases c1 : v < lo
    · rw [if_pos (nI_lt c1 (by omega)), i10, if_pos (nI_lt c1 (by omega)), show fX8_fail 4 tk = _ from z1, show fX11_fails 4 M = _ from z2]
      exact Or.inr (Or.inr ⟨tk', M', rfl, rfl, z3, z4, z5⟩)
    · rw [if_neg (nI_nlt (by omega) (by omega)), if_neg (nI_nlt (by omega) (by omega))]
      by_cases c2 : v ≤ hi
      · rw [if_pos (nI_le c2 (by omega)), i00, if_pos (nI_le c2 (by omega)), gd_pos (inbn h4 (by decide)), nI_clamp (by omega)]
        have hG2 : G t N e (si tk 10 (nI v)) (sa M 0 (upd (ga M 0) to (nI v))) := G_M (G_T hG (Or.inl rfl) (nI v)) (fun _ _ _ => rfl) rfl
        dsimp only
        obtain ⟨tk', M', m1, fa, fk, ⟨w1, fc, e', he, -, hG3⟩ | ⟨w1, hY⟩⟩ := adv_G hG2
        · rw [m1, w1]
          exact Or.inl ⟨tk', M', v, rfl, rfl, fc, fa, by omega, c2, e', he, hG3⟩
        · rw [m1, w1]
          exact Or.inr (Or.inl ⟨tk', M', v, rfl, rfl, FK_trans (FK_si _ (by decide) _) fk, fa, hY⟩)
      · rw [if_neg (nI_ge (by omega) (by omega)), i10, if_neg (nI_ge (by omega) (by omega)), show fX8_fail 4 tk = _ from z1, show fX11_fails 4 M = _ from z2]
        exact Or.inr (Or.inr ⟨tk', M', rfl, rfl, z3, z4, z5⟩)
  · obtain ⟨tk', M', z1, z2, z3, z4, z5⟩ := fail_G hG (k := 2) (by decide) (by decide)
    rw [q1, q2, if_neg (by decide), if_neg (by decide), show fX8_fail 2 tk = _ from z1, show fX11_fails 2 M = _ from z2]
    exact Or.inr (Or.inr ⟨tk', M', rfl, rfl, z3, z4, z5⟩)
theorem NM_M {d M M' : Rc} {F base : Nat} (h : NM d M F base) (h2 : gb M' 1 = gb M 1) : NM d M' F base := fun f hf => by
  obtain ⟨u, u1, u2, u3⟩ := h f hf
  exact ⟨u, u1, u2, by rw [h2]; exact u3⟩
theorem DR_dis {d M : Rc} {F D f g v : Nat} (h : DR d M F D) (hf : f < 8) (hg : g < 8) (hfg : ¬ f = g) (hv : v ≤ 99) {M' : Rc} (hn : gb M' 1 = gb M 1) (hA : ∀ k, 4160 ≤ k → k < 5190 → ga M' 0 k = upd (upd (ga M 0) (4218 + (8 * f + g)) (nI v)) (4218 + (8 * g + f)) (nI v) k) : DR (sa d 7 (upd (upd (ga d 7) (8 * f + g) (nI v)) (8 * g + f) (nI v))) M' F D := by
  obtain ⟨⟨a1, a2, a3⟩, ⟨c1, c2, c3⟩, e2, e3, e4, e5, e6, e7, e8, e9, e10, e11, e12⟩ := h
  have up : ∀ k, 4160 ≤ k → k < 5190 → ¬ k = 4218 + (8 * f + g) → ¬ k = 4218 + (8 * g + f) → ga M' 0 k = ga M 0 k := fun k h1 h2 h3 h4 => by rw [hA k h1 h2, upd_ne _ _ h4, upd_ne _ _ h3]
  refine ⟨⟨a1, a2, (up _ (by omega) (by omega) (by omega) (by omega)).trans a3⟩, ⟨c1, c2, (up _ (by omega) (by omega) (by omega) (by omega)).trans c3⟩, ⟨(up _ (by omega) (by omega) (by omega) (by omega)).trans e2.1, e2.2⟩, (up _ (by omega) (by omega) (by omega) (by omega)).trans e3, fun x hx => ?_, NM_M e5 hn, fun i hi => ?_, fun x hx => ?_, fun k hk => ?_, e9, e10, e11, fun k k1 k2 => (up k (by omega) (by omega) (by omega) (by omega)).trans (e12 k k1 k2)⟩
  · obtain ⟨z0, z1, z2, z3, z4, z5, z6⟩ := e4 x hx
    exact ⟨(up _ (by omega) (by omega) (by omega) (by omega)).trans z0, (up _ (by omega) (by omega) (by omega) (by omega)).trans z1, (up _ (by omega) (by omega) (by omega) (by omega)).trans z2, (up _ (by omega) (by omega) (by omega) (by omega)).trans z3, (up _ (by omega) (by omega) (by omega) (by omega)).trans z4, (up _ (by omega) (by omega) (by omega) (by omega)).trans z5, z6⟩
  · obtain ⟨y1, y2, y3⟩ := e6 i hi
    rw [hA _ (by omega) (by omega), ga_sa0]
    by_cases w1 : i = 8 * g + f
    · subst w1
      rw [upd_eq, upd_eq, nI_toInt (by omega)]
      exact ⟨rfl, by omega, by omega⟩
    · rw [upd_ne _ _ (by omega), upd_ne _ _ w1]
      by_cases w2 : i = 8 * f + g
      · subst w2
        rw [upd_eq, upd_eq, nI_toInt (by omega)]
        exact ⟨rfl, by omega, by omega⟩
      · rw [upd_ne _ _ (by omega), upd_ne _ _ w2]
        exact ⟨y1, y2, y3⟩
  · rw [ga_sa0, upd_ne _ _ (by omega), upd_ne _ _ (by omega)]
    exact e7 x hx
  · rw [up _ (by omega) (by omega) (by omega) (by omega)]; exact e8 k hk
theorem dislike_part {t : Nat → Int32} {N e : Nat} {bt tk d M : Rc} {F D : Nat} (h : G t N e tk M) (hd : DR d M F D) (hv : gi bt 3 = gi M 20) (hb : isb (gi bt 3) = true) : PT t N e tk M ((fX1_readDislikes bt tk d).bind (fun r => some (r.1, bt, r.2.1, r.2.2))) (fX11_aDislike M) := by
  have hF : F ≤ 8 := hd.1.1
  have h8 : gi d 8 = nI F := hd.1.2.1
  have c40 : (4160 : Int32).toNatClampNeg = 4160 := rfl
  have c90 : (5190 : Int32).toNatClampNeg = 5190 := rfl
  have c91 : (5191 : Int32).toNatClampNeg = 5191 := rfl
  have c92 : (5192 : Int32).toNatClampNeg = 5192 := rfl
  unfold fX1_readDislikes fX11_aDislike lt_
  rw [c40, hd.1.2.2]
  dsimp only
  obtain ⟨tk1, M1, m1, fa, fk, ⟨q1, fc, e1, he1, -, hG1⟩ | ⟨q1, hY⟩⟩ := adv_G h
  · rw [m1, q1, bs, bs]
    dsimp only
    rw [if_neg (show ¬ (1 : Int32) = 0 by decide)]
    have hM1 : FP M M1 := FA_FP fa
    have hd1 : DR d M1 F D := DR_FA hd fa
    have hN1 : NM d M1 F 32 := hd1.2.2.2.2.2.1
    rw [show (32 : Int32) = nI 32 from rfl, show (5190 : Int32) = nI 5190 from rfl]
    rcases old_G hG1 (base := 32) (to := 5190) hF (by decide) h8 hN1 (by decide) (by decide) with ⟨tk2, M2, f, hf, p1, p2, fc2, fa2, e2, he2, hG2⟩ | ⟨tk2, M2, p1, fk2, fp2, ⟨p2, hY⟩ | ⟨p2, hX⟩⟩
    · rw [p1, p2, bs, bs]
      dsimp only
      rw [if_neg (show ¬ (1 : Int32) = 0 by decide), if_neg (show ¬ (1 : Int32) = 0 by decide)]
      have fk12 : FK tk tk2 := FK_trans fk (FK_trans (FK_si tk1 (k := 11) (by decide) (nI f)) (FC_FK fc2))
      have hM2 : FP M M2 := FP_trans hM1 (FP_trans (FP_up M1 (by omega) _) (FA_FP fa2))
      have g11 : gi tk2 11 = nI f := fc2.2.2 11 (by omega)
      have hA2 : ga M2 0 = upd (ga M1 0) 5190 (nI f) := by rw [FA_ga fa2, ga_sa0]
      have hB2 : gb M2 1 = gb M1 1 := by rw [FA_gb fa2]; rfl
      have hN2 : NM d M2 F 32 := NM_M hN1 hB2
      rw [g11, hA2, show (nI 5190).toNatClampNeg = 5190 from rfl, upd_eq]
      rcases must_G hG2 hF (by decide) h8 hN2 with ⟨g, hg, r1, r2, r3⟩ | ⟨tk3, M3, r1, r2, r3, r4, r5⟩
      · rw [r1, r2, bs, bs]
        dsimp only
        rw [if_neg (show ¬ (1 : Int32) = 0 by decide), if_neg (show ¬ (1 : Int32) = 0 by decide), r3, bs, show gi (si tk2 11 (nI g)) 11 = nI g from rfl]
        have hG3 : G t N e2 (si tk2 11 (nI g)) M2 := G_T hG2 (Or.inr rfl) _
        by_cases c : g = f
        · rw [if_pos (by rw [c]), if_pos (by rw [c])]
          obtain ⟨tk', M', z1, z2, z3, z4, z5⟩ := fail_G hG3 (k := 5) (by decide) (by decide)
          rw [show fX8_fail 5 (si tk2 11 (nI g)) = _ from z1, show fX11_fails 5 M2 = _ from z2]
          exact PT_X (FK_trans fk12 (FK_trans (FK_si _ (by decide) _) z3)) (FP_trans hM2 z4) z5 _ _
        · have hcne : ¬ nI g = nI f := fun z => c ((nI_eq (by omega) (by omega)).mp z)
          rw [if_neg hcne, if_neg hcne]
          unfold fX11_aDislike_J61 fX11_oldOne lt_
          rw [r2, bs, if_neg (show ¬ (1 : Int32) = 0 by decide), show (32 : Int32) = nI 32 from rfl, r3, bs, gd_pos (show inb 5191 6240 = true by decide), c91]
          dsimp only
          rw [ga_sa0, upd_eq, if_neg (nI_m1 (by omega))]
          have hG4 : G t N e2 (si tk2 11 (nI g)) (sa M2 0 (upd (ga M2 0) 5191 (nI g))) := G_M hG3 (fun _ _ _ => rfl) rfl
          have hM3 : FP M (sa M2 0 (upd (ga M2 0) 5191 (nI g))) := FP_trans hM2 (FP_up M2 (by omega) _)
          have fk13 : FK tk (si tk2 11 (nI g)) := FK_trans fk12 (FK_si _ (by decide) _)
          obtain ⟨tk4, M4, m4, fa4, fk4, ⟨s1, fc4, e4, he4, -, hG5⟩ | ⟨s1, hY⟩⟩ := adv_G hG4
          · rw [m4, s1, bs, bs]
            dsimp only
            rw [if_neg (show ¬ (1 : Int32) = 0 by decide), bs, if_neg (show ¬ (1 : Int32) = 0 by decide)]
            have hA4 : ga M4 0 = upd (upd (ga M1 0) 5190 (nI f)) 5191 (nI g) := by rw [FA_ga fa4, ga_sa0, hA2]
            have hB4 : gb M4 1 = gb M1 1 := by rw [FA_gb fa4]; exact hB2
            have g11b : gi tk4 11 = nI g := fc4.2.2 11 (by omega)
            have hM4 : FP M M4 := FP_trans hM3 (FA_FP fa4)
            rw [show (5192 : Int32) = nI 5192 from rfl, show (0 : Int32) = nI 0 from rfl, show (99 : Int32) = nI 99 from rfl]
            have fin : ∀ (M5 : Rc) (v : Nat), FA (sa M4 0 (upd (ga M4 0) 5192 (nI v))) M5 → ∃ M6, gd (inb (((4218 : Int32) + ((8 : Int32) * (ga M5 0 5190))) + (ga M5 0 5191)) 6240) (gd (inb (((4218 : Int32) + ((8 : Int32) * (ga (sa M5 0 (upd (ga M5 0) (((4218 : Int32) + ((8 : Int32) * (ga M5 0 5190))) + (ga M5 0 5191)).toNatClampNeg (ga M5 0 5192))) 0 5191))) + (ga (sa M5 0 (upd (ga M5 0) (((4218 : Int32) + ((8 : Int32) * (ga M5 0 5190))) + (ga M5 0 5191)).toNatClampNeg (ga M5 0 5192))) 0 5190)) 6240) (some ((1 : Int32), sa (sa M5 0 (upd (ga M5 0) (((4218 : Int32) + ((8 : Int32) * (ga M5 0 5190))) + (ga M5 0 5191)).toNatClampNeg (ga M5 0 5192))) 0 (upd (ga (sa M5 0 (upd (ga M5 0) (((4218 : Int32) + ((8 : Int32) * (ga M5 0 5190))) + (ga M5 0 5191)).toNatClampNeg (ga M5 0 5192))) 0) (((4218 : Int32) + ((8 : Int32) * (ga (sa M5 0 (upd (ga M5 0) (((4218 : Int32) + ((8 : Int32) * (ga M5 0 5190))) + (ga M5 0 5191)).toNatClampNeg (ga M5 0 5192))) 0 5191))) + (ga (sa M5 0 (upd (ga M5 0) (((4218 : Int32) + ((8 : Int32) * (ga M5 0 5190))) + (ga M5 0 5191)).toNatClampNeg (ga M5 0 5192))) 0 5190)).toNatClampNeg (ga (sa M5 0 (upd (ga M5 0) (((4218 : Int32) + ((8 : Int32) * (ga M5 0 5190))) + (ga M5 0 5191)).toNatClampNeg (ga M5 0 5192))) 0 5192))))) = some ((1 : Int32), M6) ∧ FP M5 M6 ∧ (∀ j, gi M6 j = gi M5 j) ∧ ga M6 9 = ga M5 9 ∧ gb M6 1 = gb M1 1 ∧ ∀ k, 4160 ≤ k → k < 5190 → ga M6 0 k = upd (upd (ga M1 0) (4218 + (8 * f + g)) (nI v)) (4218 + (8 * g + f)) (nI v) k := by
              intro M5 v fa5
              have hA5 : ga M5 0 = upd (upd (upd (ga M1 0) 5190 (nI f)) 5191 (nI g)) 5192 (nI v) := by rw [FA_ga fa5, ga_sa0, hA4]
              have v0 : ga M5 0 5190 = nI f := by rw [hA5, upd_ne _ _ (by omega), upd_ne _ _ (by omega), upd_eq]
              have v1 : ga M5 0 5191 = nI g := by rw [hA5, upd_ne _ _ (by omega), upd_eq]
              have v2 : ga M5 0 5192 = nI v := by rw [hA5, upd_eq]
              have ix : ∀ x y : Nat, ((4218 : Int32) + ((8 : Int32) * nI x)) + nI y = nI (4218 + (8 * x + y)) := fun x y => by
                rw [show (4218 : Int32) = nI 4218 from rfl, show (8 : Int32) = nI 8 from rfl, nI_mul, nI_add, nI_add, Nat.add_assoc]
              rw [v0, v1, v2, ix, nI_clamp (by omega), gd_pos (inbn (by omega) (by decide)), ga_sa0, upd_ne _ _ (by omega), upd_ne _ _ (by omega), upd_ne _ _ (by omega), v0, v1, v2, ix, nI_clamp (by omega), gd_pos (inbn (by omega) (by decide))]
              refine ⟨_, rfl, ?_, fun _ => rfl, rfl, ?_, fun k k1 k2 => ?_⟩
              · rw [sa_sa]
                exact ⟨fun _ _ _ _ _ => rfl, fun _ => rfl, fun j h1 => by rw [ga_sa, if_neg h1], fun _ _ => rfl, fun j hj => by rw [ga_sa0, upd_ne _ _ (by omega), upd_ne _ _ (by omega)], fun _ _ => rfl⟩
              · show gb M5 1 = _
                rw [FA_gb fa5]; exact hB4
              · rw [ga_sa0, hA5]
                by_cases w1 : k = 4218 + (8 * g + f)
                · rw [w1, upd_eq, upd_eq]
                · rw [upd_ne _ _ w1, upd_ne _ _ w1]
                  by_cases w2 : k = 4218 + (8 * f + g)
                  · rw [w2, upd_eq, upd_eq]
                  · rw [upd_ne _ _ w2, upd_ne _ _ w2, upd_ne _ _ (by omega), upd_ne _ _ (by omega), upd_ne _ _ (by omega)]
            rcases num3_G hG5 (lo := 0) (hi := 99) (to := 5192) (by decide) (by decide) (by decide) (by decide) with ⟨tk5, M5, v, u1, u2, fc5, fa5, u3, u4, e5, he5, hG6⟩ | ⟨tk5, M5, v, u1, u2, fk5, fa5, hY⟩ | ⟨tk5, M5, u1, u2, fk5, fp5, hX⟩
            · rw [u1, u2, bs, bs]
              dsimp only
              rw [if_neg (show ¬ (1 : Int32) = nI 0 by decide), if_neg (show ¬ (1 : Int32) = nI 0 by decide)]
              obtain ⟨M6, w1, w2, w3, w4, w5, w6⟩ := fin M5 v fa5
              have hM6 : FP M M6 := FP_trans hM4 (FP_trans (FP_trans (FP_up M4 (by omega) _) (FA_FP fa5)) w2)
              have g10 : gi tk5 10 = nI v := fc5.2.2 10 (by omega)
              have g11c : gi tk5 11 = nI g := (fc5.2.2 11 (by omega)).trans g11b
              rw [g10, g11c]
              unfold fX0_setDislike lt_
              rw [dlr.1, gd_pos (inbn (by omega) (by decide)), nI_clamp (by omega)]
              dsimp only
              rw [dlr.1, gd_pos (inbn (by omega) (by decide)), nI_clamp (by omega), sa_sa, ga_sa0]
              have w1' := w1
              refine ⟨bt, tk5, _, M6, FK_trans fk13 (FK_trans fk4 (FK_trans (FK_si tk4 (k := 10) (by decide) _) (FC_FK fc5))), hM6, Or.inl ⟨rfl, w1, ⟨e5, by omega, G_M hG6 (fun j _ _ => w3 j) w4⟩, ⟨F, D, DR_dis hd1 (by omega) (by omega) (fun z => c z.symm) u4 w5 w6⟩, ?_, hb⟩⟩
              rw [w3 20, fa5.2 20 (by omega), show gi (sa M4 0 (upd (ga M4 0) 5192 (nI v))) 20 = gi M4 20 from rfl, fa4.2 20 (by omega), show gi (sa M2 0 (upd (ga M2 0) 5191 (nI g))) 20 = gi M2 20 from rfl, fa2.2 20 (by omega), show gi (sa M1 0 (upd (ga M1 0) 5190 (nI f))) 20 = gi M1 20 from rfl, fa.2 20 (by omega)]
              exact hv
            · rw [u1, u2, bs, bs]
              dsimp only
              rw [if_pos (show (0 : Int32) = nI 0 from rfl), if_neg (show ¬ (1 : Int32) = nI 0 by decide)]
              obtain ⟨M6, w1, w2, w3, w4, w5, w6⟩ := fin M5 v fa5
              have hM6 : FP M M6 := FP_trans hM4 (FP_trans (FP_trans (FP_up M4 (by omega) _) (FA_FP fa5)) w2)
              exact ⟨bt, tk5, _, M6, FK_trans fk13 (FK_trans fk4 fk5), hM6, Or.inr (Or.inl ⟨rfl, w1, Y_M hY (fun j _ _ => w3 j)⟩)⟩
            · rw [u1, u2, bs, bs]
              dsimp only
              rw [if_pos (show (0 : Int32) = nI 0 from rfl), if_pos (show (0 : Int32) = nI 0 from rfl)]
              exact PT_X (FK_trans fk13 (FK_trans fk4 fk5)) (FP_trans hM4 fp5) hX _ _
          · rw [m4, s1, bs, bs]
            dsimp only
            rw [if_pos (show (0 : Int32) = 0 from rfl), bs, bs]
            dsimp only
            rw [if_neg (show ¬ (1 : Int32) = 0 by decide)]
            obtain ⟨M', z1, z2, z3⟩ := num_Y hY 5192 0 99
            rw [z1, bs, if_pos rfl]
            exact PT_X (FK_trans fk13 fk4) (FP_trans hM3 (FP_trans (FA_FP fa4) z2)) z3 _ _
      · rw [r1, bs]
        dsimp only
        rw [if_pos rfl]
        have fk3 : FK tk tk3 := FK_trans fk12 r2
        rcases r5 with ⟨z1, z2⟩ | ⟨z1, z2, z3⟩
        · rw [z1, bs, bs, if_pos rfl]
          unfold fX11_aDislike_J61 fX11_oldOne lt_
          rw [z1, bs, if_pos rfl, z2, bs, if_pos rfl]
          exact PT_X fk3 (FP_trans hM2 r3) r4 _ _
        · obtain ⟨M'', y1, y2, y3⟩ := z3 5191 (by decide)
          rw [z1, bs, bs, if_neg (show ¬ (1 : Int32) = 0 by decide), z2, bs, if_neg (fun z => nI_m1 (show f < 256 by omega) z.symm)]
          unfold fX11_aDislike_J61 fX11_oldOne lt_
          rw [z1, bs, if_neg (show ¬ (1 : Int32) = 0 by decide), show (32 : Int32) = nI 32 from rfl, z2, bs, gd_pos (show inb 5191 6240 = true by decide), c91]
          dsimp only
          rw [ga_sa0, upd_eq, if_pos rfl, y1, bs, if_pos rfl]
          exact PT_X fk3 (FP_trans hM2 y2) y3 _ _
    · rw [p1, p2, bs, bs]
      dsimp only
      rw [if_pos rfl, if_neg (show ¬ (1 : Int32) = 0 by decide), isName_Y hY, bs, bs, if_pos rfl]
      unfold fX11_aDislike_J61
      obtain ⟨M', z1, z2, z3⟩ := old_Y hY (32 : Int32) (nI F) 5191
      rw [z1, bs, if_pos rfl]
      exact PT_X (FK_trans fk fk2) (FP_trans hM1 (FP_trans fp2 z2)) z3 _ _
    · rw [p1, p2, bs, bs]
      dsimp only
      rw [if_pos rfl, if_pos rfl]
      exact PT_X (FK_trans fk fk2) (FP_trans hM1 fp2) hX _ _
  · rw [m1, q1, bs, bs]
    dsimp only
    rw [if_pos rfl]
    obtain ⟨M', z1, z2, z3⟩ := old_Y hY (32 : Int32) (nI F) 5190
    rw [z1, bs, bs]
    dsimp only
    rw [if_pos rfl]
    exact PT_X fk (FP_trans (FA_FP fa) z2) z3 _ _
