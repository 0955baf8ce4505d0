/-! ===== (B) a season's text: orders ===== -/
def zk (z : Rc) (n : Nat) (κ σ : Int32) : Rc := sa (sa z 0 (upd (ga z 0) n κ)) 2 (upd (ga z 2) n σ)
theorem zk_id (z : Rc) (n : Nat) : zk z n (ga z 0 n) (ga z 2 n) = z := by
  unfold zk
  rw [upd_id _ _ rfl, upd_id _ _ rfl, sa_id]
  exact sa_id z 2
/-- how the rest of a step ends -/
def ORD (t : Nat → Int32) (N e : Nat) (tk M z : Rc) (n R F : Nat) (c : Option (Int32 × Rc × Rc)) (m : Option (Int32 × Rc)) : Prop := (∃ (tk' M' : Rc) (κ σ : Int32), c = some ((1 : Int32), tk', zk z n κ σ) ∧ m = some ((1 : Int32), M') ∧ FK tk tk' ∧ FO R M M' ∧ (∃ e', e ≤ e' ∧ G t N e' tk' M') ∧ SC_ κ σ (gi tk' 10) (gi tk' 11) M' R F) ∨ (∃ (tk' M' z' : Rc), c = some ((0 : Int32), tk', z') ∧ FK tk tk' ∧ FP M M' ∧ ((m = some ((1 : Int32), M') ∧ Y_ tk' M') ∨ (m = some ((0 : Int32), M') ∧ X_ tk' M')))
theorem ord_num {t : Nat → Int32} {N e : Nat} {tk M z : Rc} (h : G t N e tk M) {n R F lo hi : Nat} (h1 : lo ≤ 9999) (h2 : hi ≤ 9999) (hR : 4160 ≤ R) (hR2 : R + 6 ≤ 6240) (hC : ∀ (v f : Int32) (M' : Rc), ga M' 0 R = ga M 0 R → ga M' 0 (R + 1) = v → nr v lo hi → SC_ (ga z 0 n) (ga z 2 n) v f M' R F) : ORD t N e tk M z n R F ((fX8_passNumber (nI lo) (nI hi) tk).bind (fun r => some (r.1, r.2, z))) ((fX11_number (nI (R + 1)) (nI lo) (nI hi) M).bind (fun r => some (r.1, r.2))) := by
  rcases num_O h (R := R) (j := 1) h1 h2 hR hR2 (by omega) with ⟨tk', M', q1, q2, fk, fo, hG, c1, c2, c3, c4⟩ | ⟨tk', M', q1, fk, fp, ⟨q2, hY⟩ | ⟨q2, hX⟩⟩
  · rw [q1, q2, bs, bs]
    exact Or.inl ⟨tk', M', ga z 0 n, ga z 2 n, by rw [zk_id], rfl, fk, fo, hG, hC _ _ _ (c4 R (by omega)) c1 c2⟩
  · rw [q1, q2, bs, bs]
    exact Or.inr ⟨tk', M', z, rfl, fk, fp, Or.inl ⟨rfl, hY⟩⟩
  · rw [q1, q2, bs, bs]
    exact Or.inr ⟨tk', M', z, rfl, fk, fp, Or.inr ⟨rfl, hX⟩⟩
theorem NM_FO {b M M' : Rc} {F R : Nat} (h : FO R M M') (hN : NM b M F 0) : NM b M' F 0 := fun f hf => by
  obtain ⟨u, u1, u2, u3⟩ := hN f hf
  exact ⟨u, u1, u2, by rw [h.2.2.2.1 1]; exact u3⟩
/-- a farmer, then a number -/
theorem ord_fn {t : Nat → Int32} {N e : Nat} {tk M z b : Rc} (h : G t N e tk M) {n R F lo hi : Nat} (hF : F ≤ 8) (h8 : gi b 8 = nI F) (hN : NM b M F 0) (h0 : ga M 0 0 = nI F) (h1 : lo ≤ 9999) (h2 : hi ≤ 9999) (hR : 4160 ≤ R) (hR2 : R + 6 ≤ 6240) (hC : ∀ (v f : Int32) (M' : Rc), ga M' 0 R = ga M 0 R → ga M' 0 (R + 1) = f → (0 ≤ f.toInt ∧ f.toInt < F) → ga M' 0 (R + 2) = v → nr v lo hi → SC_ (ga z 0 n) (ga z 2 n) v f M' R F) : ORD t N e tk M z n R F ((fX8_passFarmer tk b).bind (fun r20 => if r20.1 = (0 : Int32) then some ((0 : Int32), r20.2, z) else (fX8_passNumber (nI lo) (nI hi) r20.2).bind (fun r23 => if r23.1 = (0 : Int32) then some ((0 : Int32), r23.2, z) else some ((1 : Int32), r23.2, z)))) ((fX11_farmerTo (nI (R + 1)) M).bind (fun r25 => if r25.1 = (0 : Int32) then some ((0 : Int32), r25.2) else (fX11_number (nI (R + 2)) (nI lo) (nI hi) r25.2).bind (fun r28 => if r28.1 = (0 : Int32) then some ((0 : Int32), r28.2) else some ((1 : Int32), r28.2)))) := by
  rcases old_O h (R := R) (j := 1) hF h8 hN h0 hR hR2 (by omega) with ⟨tk1, M1, q1, q2, fk, fo, ⟨e1, he1, hG⟩, c1, c2, c4⟩ | ⟨tk1, M1, q1, fk, fp, ⟨q2, hY⟩ | ⟨q2, hX⟩⟩
  · rw [q1, q2, bs, bs]
    dsimp only
    rw [i10, i10]
    rcases num_O hG (R := R) (j := 2) h1 h2 hR hR2 (by omega) with ⟨tk', M', p1, p2, fk2, fo2, ⟨e2, he2, hG2⟩, d1, d2, d3, d4⟩ | ⟨tk', M', p1, fk2, fp2, ⟨p2, hY⟩ | ⟨p2, hX⟩⟩
    · rw [p1, p2, bs, bs]
      refine Or.inl ⟨tk', M', ga z 0 n, ga z 2 n, by rw [zk_id]; rfl, rfl, FK_trans fk fk2, FO_trans fo fo2, ⟨e2, by omega, hG2⟩, hC _ _ _ ?_ ?_ ?_ d1 d2⟩
      · rw [d4 R (by omega), c4 R (by omega)]
      · rw [d4 _ (by omega), c1, d3]
      · rw [d3]; exact c2
    · rw [p1, p2, bs, bs]
      exact Or.inr ⟨tk', M', z, rfl, FK_trans fk fk2, FP_trans (FO_FP hR fo) fp2, Or.inl ⟨rfl, hY⟩⟩
    · rw [p1, p2, bs, bs]
      exact Or.inr ⟨tk', M', z, rfl, FK_trans fk fk2, FP_trans (FO_FP hR fo) fp2, Or.inr ⟨rfl, hX⟩⟩
  · obtain ⟨M2, s1, s2, s3⟩ := num_Y hY (nI (R + 2)) (nI lo) (nI hi)
    rw [q1, q2, bs, bs]
    dsimp only
    rw [i10, s1, bs]
    exact Or.inr ⟨tk1, M2, z, rfl, fk, FP_trans fp s2, Or.inr ⟨rfl, s3⟩⟩
  · rw [q1, q2, bs, bs]
    exact Or.inr ⟨tk1, M1, z, rfl, fk, fp, Or.inr ⟨rfl, hX⟩⟩
/-- a farmer, on, a number -/
theorem ord_fwn {t : Nat → Int32} {N e : Nat} {tk M z b st : Rc} (h : G t N e tk M) {n R F lo hi : Nat} (hF : F ≤ 8) (h8 : gi b 8 = nI F) (hN : NM b M F 0) (h0 : ga M 0 0 = nI F) (h1 : lo ≤ 9999) (h2 : hi ≤ 9999) (hR : 4160 ≤ R) (hR2 : R + 6 ≤ 6240) (hC : ∀ (v f : Int32) (M' : Rc), ga M' 0 R = ga M 0 R → ga M' 0 (R + 1) = f → (0 ≤ f.toInt ∧ f.toInt < F) → ga M' 0 (R + 2) = v → nr v lo hi → SC_ (ga z 0 n) (ga z 2 n) v f M' R F) : ORD t N e tk M z n R F ((fX6_readFarmerOn st tk b).bind (fun r6 => if r6.1 = (0 : Int32) then some ((0 : Int32), r6.2, z) else (fX8_passNumber (nI lo) (nI hi) r6.2).bind (fun r9 => if r9.1 = (0 : Int32) then some ((0 : Int32), r9.2, z) else some ((1 : Int32), r9.2, z)))) ((fX11_farmerTo (nI (R + 1)) M).bind (fun r5 => if r5.1 = (0 : Int32) then some ((0 : Int32), r5.2) else (fX11_wantWord (22 : Int32) r5.2).bind (fun r8 => if r8.1 = (0 : Int32) then some ((0 : Int32), r8.2) else (fX11_number (nI (R + 2)) (nI lo) (nI hi) r8.2).bind (fun r11 => if r11.1 = (0 : Int32) then some ((0 : Int32), r11.2) else some ((1 : Int32), r11.2))))) := by
  unfold fX6_readFarmerOn
  rcases old_O h (R := R) (j := 1) hF h8 hN h0 hR hR2 (by omega) with ⟨tk1, M1, q1, q2, fk, fo, ⟨e1, he1, hG⟩, c1, c2, c4⟩ | ⟨tk1, M1, q1, fk, fp, ⟨q2, hY⟩ | ⟨q2, hX⟩⟩
  · rw [q1, q2, bs, bs]
    dsimp only
    rw [i10, i10]
    have w := word_G hG (j := 19) (by decide)
    rw [show nI (rk 19) = 22 from rfl, show nI 19 = 19 from rfl] at w
    rcases w with ⟨tk2, M2, w1, w2, fc, fa, e2, he2, hG2⟩ | ⟨tk2, M2, w1, fk2, fp2, ⟨w2, hY⟩ | ⟨w2, hX⟩⟩
    · rw [w1, w2, bs, bs]
      dsimp only
      rw [i10, i10, bs]
      dsimp only
      rw [i10]
      rcases num_O hG2 (R := R) (j := 2) h1 h2 hR hR2 (by omega) with ⟨tk', M', p1, p2, fk3, fo3, ⟨e3, he3, hG3⟩, d1, d2, d3, d4⟩ | ⟨tk', M', p1, fk3, fp3, ⟨p2, hY⟩ | ⟨p2, hX⟩⟩
      · rw [p1, p2, bs, bs]
        have e11 : gi tk' 11 = gi tk1 11 := d3.trans (fc.2.2 11 (by omega))
        refine Or.inl ⟨tk', M', ga z 0 n, ga z 2 n, by rw [zk_id]; rfl, rfl, FK_trans fk (FK_trans (FC_FK fc) fk3), FO_trans fo (FO_trans (FO_FA R fa) fo3), ⟨e3, by omega, hG3⟩, hC _ _ _ ?_ ?_ ?_ d1 d2⟩
        · rw [d4 R (by omega), FA_ga fa, c4 R (by omega)]
        · rw [d4 _ (by omega), FA_ga fa, c1, e11]
        · rw [e11]; exact c2
      · rw [p1, p2, bs, bs]
        exact Or.inr ⟨tk', M', z, rfl, FK_trans fk (FK_trans (FC_FK fc) fk3), FP_trans (FO_FP hR fo) (FP_trans (FA_FP fa) fp3), Or.inl ⟨rfl, hY⟩⟩
      · rw [p1, p2, bs, bs]
        exact Or.inr ⟨tk', M', z, rfl, FK_trans fk (FK_trans (FC_FK fc) fk3), FP_trans (FO_FP hR fo) (FP_trans (FA_FP fa) fp3), Or.inr ⟨rfl, hX⟩⟩
    · obtain ⟨M3, s1, s2, s3⟩ := num_Y hY (nI (R + 2)) (nI lo) (nI hi)
      rw [w1, w2, bs, bs]
      dsimp only
      rw [i00, i10, bs, s1, bs]
      exact Or.inr ⟨tk2, M3, z, rfl, FK_trans fk fk2, FP_trans (FO_FP hR fo) (FP_trans fp2 s2), Or.inr ⟨rfl, s3⟩⟩
    · rw [w1, w2, bs, bs]
      exact Or.inr ⟨tk2, M2, z, rfl, FK_trans fk fk2, FP_trans (FO_FP hR fo) fp2, Or.inr ⟨rfl, hX⟩⟩
  · obtain ⟨M2, s1, s2, s3⟩ := word_Y hY (c := 22) (by decide)
    rw [q1, q2, bs, bs]
    dsimp only
    rw [i00, i10, bs, s1, bs]
    exact Or.inr ⟨tk1, M2, z, rfl, fk, FP_trans fp s2, Or.inr ⟨rfl, s3⟩⟩
  · rw [q1, q2, bs, bs]
    exact Or.inr ⟨tk1, M1, z, rfl, fk, fp, Or.inr ⟨rfl, hX⟩⟩
