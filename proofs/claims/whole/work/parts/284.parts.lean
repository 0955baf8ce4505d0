/-! ===== (B) a bench's text: votes, weather, dislikes ===== -/
/-- one farmer of the draft -/
def DRF (d M : Rc) (f : Nat) : Prop := ga M 0 (4170 + 6 * f) = ga d 1 f ∧ ga M 0 (4170 + 6 * f + 1) = ga d 2 f ∧ ga M 0 (4170 + 6 * f + 2) = ga d 3 f ∧ ga M 0 (4170 + 6 * f + 3) = b1 (elbB d f) ∧ ga M 0 (4170 + 6 * f + 4) = (if ga d 4 f = 61 then 1000000 else ga d 4 f) ∧ ga M 0 (4170 + 6 * f + 5) = 64 ∧ nr (ga d 1 f) (-3) 3 ∧ nr (ga d 2 f) 0 16 ∧ nr (ga d 3 f) 0 16 ∧ nr (ga d 4 f) 0 61
def DR (d M : Rc) (F D : Nat) : Prop := (F ≤ 8 ∧ gi d 8 = nI F ∧ ga M 0 4160 = nI F) ∧ (D ≤ 60 ∧ gi d 9 = nI D ∧ ga M 0 4161 = nI D) ∧ (ga M 0 4162 = gi d 12 ∧ 0 ≤ (gi d 12).toInt ∧ (gi d 12).toInt ≤ 3) ∧ ga M 0 4163 = -1 ∧ (∀ f, f < F → DRF d M f) ∧ NM d M F 32 ∧ (∀ i, i < 64 → ga M 0 (4218 + i) = ga d 7 i ∧ 0 ≤ (ga d 7 i).toInt ∧ (ga d 7 i).toInt ≤ 99) ∧ (∀ f, f < 8 → ga d 7 (9 * f) = 0) ∧ (∀ k, k < D → ga M 0 (4282 + k) = b1 (wetB d k) + b1 (hailB d k)) ∧ (∀ k, D ≤ k → wetB d k = false) ∧ (∀ k, hailB d k = true → wetB d k = true) ∧ (gi d 13).toBitVec.toNat < 2 ^ F ∧ (∀ k, 4342 ≤ k → k < 4822 → ga M 0 k = 0)
/-- the reference's side of the draft is as it was -/
theorem DR_M {d M M' : Rc} {F D : Nat} (h : DR d M F D) (h1 : ∀ k, 4160 ≤ k → k < 5190 → ga M' 0 k = ga M 0 k) (h2 : ∀ k, 32 ≤ k → gb M' 1 k = gb M 1 k) : DR d M' F D := by
  obtain ⟨⟨a1, a2, a3⟩, ⟨c1, c2, c3⟩, ⟨e1, e2⟩, e3, e4, e5, e6, e7, e8, e9, e10, e11, e12⟩ := h
  refine ⟨⟨a1, a2, (h1 _ (by omega) (by omega)).trans a3⟩, ⟨c1, c2, (h1 _ (by omega) (by omega)).trans c3⟩, ⟨(h1 _ (by omega) (by omega)).trans e1, e2⟩, (h1 _ (by omega) (by omega)).trans e3, fun f hf => ?_, fun f hf => ?_, fun i hi => ?_, e7, fun k hk => ?_, e9, e10, e11, fun k k1 k2 => (h1 k (by omega) (by omega)).trans (e12 k k1 k2)⟩
  · obtain ⟨z0, z1, z2, z3, z4, z5, z6⟩ := e4 f hf
    exact ⟨(h1 _ (by omega) (by omega)).trans z0, (h1 _ (by omega) (by omega)).trans z1, (h1 _ (by omega) (by omega)).trans z2, (h1 _ (by omega) (by omega)).trans z3, (h1 _ (by omega) (by omega)).trans z4, (h1 _ (by omega) (by omega)).trans z5, z6⟩
  · obtain ⟨u, u1, u2, u3⟩ := e5 f hf
    exact ⟨u, u1, u2, (h2 _ (by omega)).trans u3⟩
  · rw [h1 _ (by omega) (by omega)]; exact e6 i hi
  · rw [h1 _ (by omega) (by omega)]; exact e8 k hk
theorem DR_FA {d M M' : Rc} {F D : Nat} (h : DR d M F D) (fa : FA M M') : DR d M' F D := DR_M h (fun k _ _ => by rw [FA_ga fa]) (fun k _ => by rw [FA_gb fa])
/-- how a part ends -/
def PT (t : Nat → Int32) (N e : Nat) (tk M : Rc) (c : Option (Int32 × Rc × Rc × Rc)) (m : Option (Int32 × Rc)) : Prop := ∃ (bt' tk' d' M' : Rc), FK tk tk' ∧ FP M M' ∧ ((c = some ((1 : Int32), bt', tk', d') ∧ m = some ((1 : Int32), M') ∧ (∃ e', e ≤ e' ∧ G t N e' tk' M') ∧ (∃ F D, DR d' M' F D) ∧ gi bt' 3 = gi M' 20 ∧ isb (gi bt' 3) = true) ∨ (c = some ((0 : Int32), bt', tk', d') ∧ m = some ((1 : Int32), M') ∧ Y_ tk' M') ∨ (c = some ((0 : Int32), bt', tk', d') ∧ m = some ((0 : Int32), M') ∧ X_ tk' M'))
theorem PT_X {t : Nat → Int32} {N e : Nat} {tk M tk' M' : Rc} (h1 : FK tk tk') (h2 : FP M M') (h3 : X_ tk' M') (bt d : Rc) : PT t N e tk M (some ((0 : Int32), bt, tk', d)) (some ((0 : Int32), M')) := ⟨bt, tk', d, M', h1, h2, Or.inr (Or.inr ⟨rfl, rfl, h3⟩)⟩
theorem rk_vote : ∀ i, i < 30 → ((10 ≤ rk i ∧ rk i ≤ 13) ↔ (10 ≤ i ∧ i ≤ 13)) ∧ ((10 ≤ i ∧ i ≤ 13) → rk i = i) ∧ rk i < 30 := by decide +kernel
theorem vote_eq {t : Nat → Int32} {N e : Nat} {bt tk d M : Rc} {F D : Nat} (h : G t N e tk M) (hd : DR d M F D) (hv : gi bt 3 = gi M 20) (hb : isb (gi bt 3) = true) : PT t N e tk M (fX1_readVote bt tk d) (fX11_aVote M) := by
  unfold fX1_readVote fX11_aVote lt_
  rw [← hv]
  rcases isb_cases hb with h0 | h1
  · rw [h0, if_pos rfl, if_pos rfl]
    dsimp only
    have hG1 : G t N e tk (si M 20 1) := G_M h (fun j _ _ => by rw [gi_si, if_neg (by omega)]) rfl
    obtain ⟨tk1, M1, m1, fa, fk, ⟨q1, fc, e1, he1, -, hG2⟩ | ⟨q1, hY⟩⟩ := adv_G hG1
    · rw [m1, q1, bs, bs]
      dsimp only
      rw [if_neg (by decide)]
      obtain ⟨-, -, hkw, hin⟩ := G_tok hG2
      rw [hin, bs]
      have hM1 : FP M M1 := FP_trans (FP_si M (by omega) 1) (FA_FP fa)
      have hd1 : DR d M1 F D := DR_FA (M := si M 20 1) hd fa
      have bad : ∀ c : Option (Int32 × Rc × Rc × Rc), c = some ((fX8_fail 2 tk1).1, si bt 3 1, (fX8_fail 2 tk1).2, d) → PT t N e tk M c (some ((fX11_fails 2 M1).1, (fX11_fails 2 M1).2)) := fun c hc => by
        obtain ⟨tk', M', z1, z2, z3, z4, z5⟩ := fail_G hG2 (k := 2) (by decide) (by decide)
        rw [hc, show fX8_fail 2 tk1 = _ from z1, show fX11_fails 2 M1 = _ from z2]
        exact PT_X (FK_trans fk z3) (FP_trans hM1 z4) z5 _ _
      rcases hkw with hm | ⟨i, hi, hi2⟩
      · rw [hm, show fX10_outside (-1) 10 13 = 1 from rfl, i10, rki_m1, if_pos (by decide)]
        exact bad _ rfl
      · obtain ⟨v1, v2, v3⟩ := rk_vote i hi
        rw [hi2, rki_n hi]
        unfold fX10_outside
        by_cases c : 10 ≤ i ∧ i ≤ 13
        · rw [v2 c, if_neg (show ¬ nI i < 10 from nI_nlt (b := 10) c.1 (by omega)), if_pos (show nI i ≤ 13 from nI_le (b := 13) c.2 (by decide)), i00, if_neg (show ¬ nI i < 10 from nI_nlt (b := 10) c.1 (by omega)), if_pos (show nI i ≤ 13 from nI_le (b := 13) c.2 (by decide))]
          have ev : nI i - 10 = nI (i - 10) := by
            apply i_ext
            have y1 : (nI i).toInt = (i : Int) := nI_toInt (by omega)
            have y2 : (10 : Int32).toInt = 10 := rfl
            rw [i_sub (by omega) (by omega), y1, y2, nI_toInt (by omega)]
            omega
          have c4 : (4162 : Int32).toNatClampNeg = 4162 := rfl
          rw [ev, c4]
          have hG3 : G t N e1 tk1 (sa M1 0 (upd (ga M1 0) 4162 (nI (i - 10)))) := G_M hG2 (fun _ _ _ => rfl) rfl
          have hM2 : FP M (sa M1 0 (upd (ga M1 0) 4162 (nI (i - 10)))) := FP_trans hM1 (FP_up _ (by omega) _)
          obtain ⟨tk2, M2, m2, fa2, fk2, ⟨w1, fc2, e2, he2, -, hG4⟩ | ⟨w1, hY⟩⟩ := adv_G hG3
          · rw [m2, w1]
            refine ⟨_, tk2, _, M2, FK_trans fk fk2, FP_trans hM2 (FA_FP fa2), Or.inl ⟨rfl, rfl, ⟨e2, by omega, hG4⟩, ⟨F, D, ?_⟩, ?_, rfl⟩⟩
            · refine DR_FA (M := sa M1 0 (upd (ga M1 0) 4162 (nI (i - 10)))) ?_ fa2
              obtain ⟨a, c', ⟨-, -⟩, e3, e4, e5, e6, e7, e8, e9, e10, e11, e12⟩ := hd1
              have up : ∀ k, ¬ k = 4162 → upd (ga M1 0) 4162 (nI (i - 10)) k = ga M1 0 k := fun k hk => upd_ne _ _ hk
              refine ⟨⟨a.1, a.2.1, (up _ (by omega)).trans a.2.2⟩, ⟨c'.1, c'.2.1, (up _ (by omega)).trans c'.2.2⟩, ⟨upd_eq (ga M1 0) 4162 _, ?_⟩, (up _ (by omega)).trans e3, fun f hf => ?_, e5, fun k hk => ?_, e7, fun k hk => ?_, e9, e10, e11, fun k k1 k2 => by rw [ga_sa0, up _ (by omega)]; exact e12 k k1 k2⟩
              · show 0 ≤ (nI (i - 10)).toInt ∧ (nI (i - 10)).toInt ≤ 3
                rw [nI_toInt (by omega)]; omega
              · obtain ⟨z0, z1, z2, z3, z4, z5, z6⟩ := e4 f hf
                exact ⟨(up _ (by omega)).trans z0, (up _ (by omega)).trans z1, (up _ (by omega)).trans z2, (up _ (by omega)).trans z3, (up _ (by omega)).trans z4, (up _ (by omega)).trans z5, z6⟩
              · rw [ga_sa0, up _ (by omega)]; exact e6 k hk
              · rw [ga_sa0, up _ (by omega)]; exact e8 k hk
            · show (1 : Int32) = gi M2 20
              rw [fa2.2 20 (by omega)]
              exact (fa.2 20 (by omega)).symm
          · rw [m2, w1]
            exact ⟨_, tk2, _, M2, FK_trans fk fk2, FP_trans hM2 (FA_FP fa2), Or.inr (Or.inl ⟨rfl, rfl, hY⟩)⟩
        · by_cases c1 : i < 10
          · have r1 : fX10_outside (nI i) 10 13 = 1 := by unfold fX10_outside; rw [if_pos (show nI i < 10 from nI_lt (b := 10) c1 (by decide))]
            rw [if_pos (show nI i < 10 from nI_lt (b := 10) c1 (by decide)), i10]
            by_cases c2 : rk i < 10
            · rw [if_pos (show nI (rk i) < 10 from nI_lt (b := 10) c2 (by decide))]
              exact bad _ rfl
            · rw [if_neg (show ¬ nI (rk i) < 10 from nI_nlt (b := 10) (by omega) (by omega)), if_neg (show ¬ nI (rk i) ≤ 13 from nI_ge (a := 13) (by omega) (by omega))]
              exact bad _ rfl
          · rw [if_neg (show ¬ nI i < 10 from nI_nlt (b := 10) (by omega) (by omega)), if_neg (show ¬ nI i ≤ 13 from nI_ge (a := 13) (by omega) (by omega)), i10]
            by_cases c2 : rk i < 10
            · rw [if_pos (show nI (rk i) < 10 from nI_lt (b := 10) c2 (by decide))]
              exact bad _ rfl
            · rw [if_neg (show ¬ nI (rk i) < 10 from nI_nlt (b := 10) (by omega) (by omega)), if_neg (show ¬ nI (rk i) ≤ 13 from nI_ge (a := 13) (by omega) (by omega))]
              exact bad _ rfl
    · -- a token that is none
      rw [m1, q1, bs, bs]
      dsimp only
      rw [if_pos rfl, inWords_bad hY.2.2.1, bs, if_pos (by decide)]
      obtain ⟨M', z1, z2, z3⟩ := fails_Y hY 2
      rw [z1]
      exact PT_X fk (FP_trans (FP_trans (FP_si M (by omega) 1) (FA_FP fa)) z2) z3 _ _
  · rw [h1, if_neg (by decide), if_neg (by decide)]
    obtain ⟨tk', M', z1, z2, z3, z4, z5⟩ := fail_G h (k := 5) (by decide) (by decide)
    rw [show fX8_fail 5 tk = _ from z1, show fX11_fails 5 M = _ from z2]
    exact PT_X z3 z4 z5 _ _
theorem wea_all : ∀ i, i < 256 → fX8_weatherAt_J22 (bx i) = some (fX11_skyOf (rb_ (bx i))) ∧ (fX11_skyOf (rb_ (bx i)) = -1 ∨ fX11_skyOf (rb_ (bx i)) = 0 ∨ fX11_skyOf (rb_ (bx i)) = 1 ∨ fX11_skyOf (rb_ (bx i)) = 2) := by
  unfold fX8_weatherAt_J22 fX11_skyOf rb_
  decide +kernel
def sky (x : Int32) : Int32 := if rb_ x = 100 then 0 else if rb_ x = 114 then 1 else if rb_ x = 104 then 2 else -1
theorem nl0 (m : Nat) (hm : m < 2000) : ¬ nI m < 0 := by rw [i_lt, nI_toInt (by omega), i_0]; omega
theorem sky_eq2 {t : Nat → Int32} {N : Nat} {tk M : Rc} (hT : TX t N tk M) {i : Nat} (hi : i < N) : fX8_weatherAt (nI i) tk = some (sky (t i)) ∧ fX11_byteAt (nI i) M = some (rb_ (t i)) ∧ fX11_skyOf (rb_ (t i)) = sky (t i) ∧ (sky (t i) = -1 ∨ ∃ w, w ≤ 2 ∧ sky (t i) = nI w) := by
  have hN := hT.2.2.2.1
  obtain ⟨k, hk, ek⟩ := byt_bx (hT.2.2.2.2.2.1 i)
  obtain ⟨w1, w2⟩ := wea_all k hk
  have e3 : fX11_skyOf (rb_ (t i)) = sky (t i) := rfl
  refine ⟨?_, byteAt_in hT hi, e3, ?_⟩
  · unfold fX8_weatherAt
    rw [if_neg (nl0 i (by omega)), hT.2.1, if_neg (nI_ge hi (by omega)), gd_pos (inbn (by omega) (by decide)), nI_clamp (by omega), hT.1, ← e3, ek]
    exact w1
  · rw [← e3, ek]
    rcases w2 with q | q | q | q
    · exact Or.inl q
    · exact Or.inr ⟨0, by omega, q⟩
    · exact Or.inr ⟨1, by omega, q⟩
    · exact Or.inr ⟨2, by omega, q⟩
