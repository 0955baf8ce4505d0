/-! ===== (B) a bench's text: a farmer, whole ===== -/
theorem cure_part {t : Nat → Int32} {N e : Nat} {bt tk d M : Rc} {F : Nat} (h : G t N e tk M) (hF : F < 8) (hb : gi bt 2 = nI F) (h0 : ga M 0 4160 = nI F) (el : Bool) : (∃ (tk' M' : Rc) (cv : Nat), fX1_readCure bt tk d = some ((1 : Int32), tk', sa d 4 (upd (ga d 4) F (nI cv))) ∧ fX11_aFarmer_J220 (nI (4170 + 6 * F)) (b1 el) (nI (4170 + 6 * F + 3)) M = some ((1 : Int32), M') ∧ FK tk tk' ∧ (∃ e', e ≤ e' ∧ G t N e' tk' M') ∧ (ga M' 0 (4170 + 6 * F + 3) = b1 el ∧ ga M' 0 (4170 + 6 * F + 4) = (if nI cv = 61 then 1000000 else nI cv) ∧ ga M' 0 (4170 + 6 * F + 5) = 64 ∧ ga M' 0 4160 = nI (F + 1) ∧ ∀ k, ¬ k = 4170 + 6 * F + 3 → ¬ k = 4170 + 6 * F + 4 → ¬ k = 4170 + 6 * F + 5 → ¬ k = 4160 → ga M' 0 k = ga M 0 k) ∧ gb M' 1 = gb M 1 ∧ FP M M' ∧ gi M' 20 = gi M 20 ∧ cv ≤ 61) ∨ NO tk M (fX1_readCure bt tk d) (fX11_aFarmer_J220 (nI (4170 + 6 * F)) (b1 el) (nI (4170 + 6 * F + 3)) M) := by
  unfold fX1_readCure fX11_aFarmer_J220 lt_
  dsimp only
  rw [hb, gd_pos (inbn hF (by decide)), nI_clamp (by omega), gd_pos (inbn (by omega) (by decide)), nI_clamp (by omega), show (4 : Int32) = nI 4 from rfl, iy6, gd_pos (inbn (by omega) (by decide)), nI_clamp (by omega)]
  simp only [sa_sa, ga_sa0]
  have hG1 : G t N e tk (sa M 0 (upd (upd (ga M 0) (4170 + 6 * F + 3) (b1 el)) (4170 + 6 * F + 4) 1000000)) := G_M h (fun _ _ _ => rfl) rfl
  have fp1 : FP M (sa M 0 (upd (upd (ga M 0) (4170 + 6 * F + 3) (b1 el)) (4170 + 6 * F + 4) 1000000)) := FP_g M _ (fun k hk => by rw [upd_ne _ _ (by omega), upd_ne _ _ (by omega)])
  have hA1 : ga (sa M 0 (upd (upd (ga M 0) (4170 + 6 * F + 3) (b1 el)) (4170 + 6 * F + 4) 1000000)) 0 = upd (upd (ga M 0) (4170 + 6 * F + 3) (b1 el)) (4170 + 6 * F + 4) 1000000 := ga_sa0 _ _ _
  have hB1 : gb (sa M 0 (upd (upd (ga M 0) (4170 + 6 * F + 3) (b1 el)) (4170 + 6 * F + 4) 1000000)) 1 = gb M 1 := rfl
  have h20 : gi (sa M 0 (upd (upd (ga M 0) (4170 + 6 * F + 3) (b1 el)) (4170 + 6 * F + 4) 1000000)) 20 = gi M 20 := rfl
  generalize hM1 : sa M 0 (upd (upd (ga M 0) (4170 + 6 * F + 3) (b1 el)) (4170 + 6 * F + 4) 1000000) = M1 at *
  rw [show (9 : Int32) = nI (rk 6) from rfl]
  rcases there_G hG1 (j := 6) (by decide) with ⟨k6, tk2, M2, p2, fa2, fk2, ⟨q1, fc2, e2, he2, hG2⟩ | ⟨q1, hY⟩⟩ | ⟨k6, p2⟩
  · unfold fX8_passWord
    rw [p2, bs]
    dsimp only
    rw [if_pos (show gi tk 8 = 6 from k6), if_pos (show gi tk 8 = 6 from k6), q1, bs, bs, if_neg (show ¬ (1 : Int32) = 0 by decide)]
    dsimp only
    rw [if_neg (show ¬ (1 : Int32) = 0 by decide), show fX8_passNumber 0 60 = fX8_passNumber (nI 0) (nI 60) from rfl, show ∀ x y, fX11_number x 0 60 y = fX11_number x (nI 0) (nI 60) y from fun _ _ => rfl]
    rcases num3_G hG2 (lo := 0) (hi := 60) (to := 4170 + 6 * F + 4) (by decide) (by decide) (by omega) (by omega) with ⟨tk3, M3, v, u1, u2, fc3, fa3, u3, u4, e3, he3, hG3⟩ | ⟨tk3, M3, v, u1, u2, fk3, fa3, hY⟩ | ⟨tk3, M3, u1, u2, fk3, fp3, hX⟩
    · left
      have hA3 : ga M3 0 = upd (upd (upd (ga M 0) (4170 + 6 * F + 3) (b1 el)) (4170 + 6 * F + 4) 1000000) (4170 + 6 * F + 4) (nI v) := by rw [FA_ga fa3, ga_sa0, FA_ga fa2, hA1]
      rw [u1, u2, bs, bs]
      dsimp only
      rw [if_neg (show ¬ (1 : Int32) = 0 by decide), if_neg (show ¬ (1 : Int32) = 0 by decide), J255_eq M3 hF (by rw [hA3, upd_ne _ _ (by omega), upd_ne _ _ (by omega), upd_ne _ _ (by omega)]; exact h0), show gi tk3 10 = nI v from fc3.2.2 10 (by omega), upd_upd]
      refine ⟨tk3, _, v, rfl, rfl, FK_trans fk2 (FK_trans (FK_si tk2 (k := 10) (by decide) _) (FC_FK fc3)), ⟨e3, by omega, G_M hG3 (fun _ _ _ => rfl) rfl⟩, ⟨?_, ?_, ?_, ?_, fun k k1 k2 k3 k4 => ?_⟩, ?_, ?_, ?_, by omega⟩
      · rw [ga_sa0, upd_ne _ _ (by omega), upd_ne _ _ (by omega), hA3, upd_ne _ _ (by omega), upd_ne _ _ (by omega), upd_eq]
      · rw [ga_sa0, upd_ne _ _ (by omega), upd_ne _ _ (by omega), hA3, upd_eq, if_neg (fun w => by have := (nI_eq (a := v) (b := 61) (by omega) (by decide)).mp w; omega)]
      · rw [ga_sa0, upd_ne _ _ (by omega), upd_eq]
      · rw [ga_sa0, upd_eq]
      · rw [ga_sa0, upd_ne _ _ k4, upd_ne _ _ k3, hA3, upd_ne _ _ k2, upd_ne _ _ k2, upd_ne _ _ k1]
      · show gb M3 1 = _
        rw [FA_gb fa3]
        exact (FA_gb fa2 1).trans hB1
      · exact FP_trans fp1 (FP_trans (FA_FP fa2) (FP_trans (FP_up M2 (by omega) _) (FP_trans (FA_FP fa3) (FP_g M3 _ (fun k hk => by rw [upd_ne _ _ (by omega), upd_ne _ _ (by omega)])))))
      · show gi M3 20 = _
        exact (fa3.2 20 (by omega)).trans ((fa2.2 20 (by omega)).trans h20)
    · right
      have hA3 : ga M3 0 = upd (upd (upd (ga M 0) (4170 + 6 * F + 3) (b1 el)) (4170 + 6 * F + 4) 1000000) (4170 + 6 * F + 4) (nI v) := by rw [FA_ga fa3, ga_sa0, FA_ga fa2, hA1]
      rw [u1, u2, bs, bs]
      dsimp only
      rw [if_pos rfl, if_neg (show ¬ (1 : Int32) = 0 by decide), J255_eq M3 hF (by rw [hA3, upd_ne _ _ (by omega), upd_ne _ _ (by omega), upd_ne _ _ (by omega)]; exact h0)]
      exact ⟨tk3, _, _, rfl, FK_trans fk2 fk3, FP_trans fp1 (FP_trans (FA_FP fa2) (FP_trans (FP_up M2 (by omega) _) (FP_trans (FA_FP fa3) (FP_g M3 _ (fun k hk => by rw [upd_ne _ _ (by omega), upd_ne _ _ (by omega)]))))), Or.inl ⟨rfl, Y_M hY (fun _ _ _ => rfl)⟩⟩
    · right
      rw [u1, u2, bs, bs]
      dsimp only
      rw [if_pos rfl, if_pos rfl]
      exact ⟨tk3, _, M3, rfl, FK_trans fk2 fk3, FP_trans fp1 (FP_trans (FA_FP fa2) fp3), Or.inr ⟨rfl, hX⟩⟩
  · right
    unfold fX8_passWord
    rw [p2, bs]
    dsimp only
    rw [if_pos (show gi tk 8 = 6 from k6), if_pos (show gi tk 8 = 6 from k6), q1, bs, bs, if_neg (show ¬ (1 : Int32) = 0 by decide)]
    dsimp only
    rw [if_pos rfl]
    obtain ⟨M', z1, z2, z3⟩ := num_Y hY (nI (4170 + 6 * F + 4)) 0 60
    rw [z1, bs]
    dsimp only
    rw [if_pos rfl]
    exact ⟨tk2, _, M', rfl, fk2, FP_trans fp1 (FP_trans (FA_FP fa2) z2), Or.inr ⟨rfl, z3⟩⟩
  · left
    rw [p2, bs]
    dsimp only
    rw [if_neg (show ¬ gi tk 8 = 6 from k6), if_pos rfl, J255_eq M1 hF (by rw [hA1, upd_ne _ _ (by omega), upd_ne _ _ (by omega)]; exact h0)]
    refine ⟨tk, _, 61, rfl, rfl, FK_refl _, ⟨e, Nat.le_refl _, G_M hG1 (fun _ _ _ => rfl) rfl⟩, ⟨?_, ?_, ?_, ?_, fun k k1 k2 k3 k4 => ?_⟩, hB1, ?_, h20, by omega⟩
    · rw [ga_sa0, upd_ne _ _ (by omega), upd_ne _ _ (by omega), hA1, upd_ne _ _ (by omega), upd_eq]
    · rw [ga_sa0, upd_ne _ _ (by omega), upd_ne _ _ (by omega), hA1, upd_eq, if_pos (show nI 61 = 61 from rfl)]
    · rw [ga_sa0, upd_ne _ _ (by omega), upd_eq]
    · rw [ga_sa0, upd_eq]
    · rw [ga_sa0, upd_ne _ _ k4, upd_ne _ _ k3, hA1, upd_ne _ _ k2, upd_ne _ _ k1]
    · exact FP_trans fp1 (FP_g M1 _ (fun k hk => by rw [upd_ne _ _ (by omega), upd_ne _ _ (by omega)]))
theorem or_bit {x : Int32} {F : Nat} (hF : F < 8) (hx : x.toBitVec.toNat < 2 ^ F) (el : Bool) : (if el = true then x ||| nI (2 ^ F) else x).toBitVec.toNat < 2 ^ (F + 1) ∧ (∀ f, f < F → (if el = true then x ||| nI (2 ^ F) else x).toBitVec.toNat.testBit f = x.toBitVec.toNat.testBit f) ∧ (if el = true then x ||| nI (2 ^ F) else x).toBitVec.toNat.testBit F = el := by
  have h8 : 2 ^ F ≤ 2 ^ 7 := Nat.pow_le_pow_right (by decide) (by omega)
  have hF1 : 2 ^ F < 2 ^ (F + 1) := Nat.pow_lt_pow_right (by decide) (by omega)
  cases el with
  | false =>
    rw [if_neg (by decide)]
    exact ⟨by omega, fun _ _ => rfl, Nat.testBit_lt_two_pow hx⟩
  | true =>
    rw [if_pos rfl, Int32.toBitVec_or, BitVec.toNat_or]
    have e : (nI (2 ^ F)).toBitVec.toNat = 2 ^ F := by
      show (BitVec.ofNat 32 (2 ^ F)).toNat = _
      rw [BitVec.toNat_ofNat, Nat.mod_eq_of_lt (by omega)]
    rw [e]
    refine ⟨Nat.or_lt_two_pow (by omega) hF1, fun f hf => ?_, ?_⟩
    · rw [Nat.testBit_or, Nat.testBit_two_pow, decide_eq_false (by omega), Bool.or_false]
    · rw [Nat.testBit_or, Nat.testBit_two_pow, decide_eq_true rfl, Bool.or_true]
theorem DR_farmer {d M d' M' : Rc} {F D : Nat} (h : DR d M F D) (hF : F < 8) {w : List Nat} (hw : okw w) {lv : Int32} {fv sv cv : Nat} {el : Bool} (hl : nr lv (-3) 3) (hfv : fv ≤ 16) (hsv : sv ≤ 16) (hcv : cv ≤ 61) (d8 : gi d' 8 = nI (F + 1)) (d9 : gi d' 9 = gi d 9) (d12 : gi d' 12 = gi d 12) (dl : gl d' = gl d) (d7 : ga d' 7 = ga d 7) (d0 : gb d' 0 = vp_updL (gb d 0) F (pk5 w)) (d1 : ga d' 1 = upd (ga d 1) F lv) (d2 : ga d' 2 = upd (ga d 2) F (nI fv)) (d3 : ga d' 3 = upd (ga d 3) F (nI sv)) (d4 : ga d' 4 = upd (ga d 4) F (nI cv)) (d13 : gi d' 13 = if el = true then gi d 13 ||| nI (2 ^ F) else gi d 13) (m0 : ga M' 0 (4170 + 6 * F) = lv) (m1 : ga M' 0 (4170 + 6 * F + 1) = nI fv) (m2 : ga M' 0 (4170 + 6 * F + 2) = nI sv) (m3 : ga M' 0 (4170 + 6 * F + 3) = b1 el) (m4 : ga M' 0 (4170 + 6 * F + 4) = (if nI cv = 61 then 1000000 else nI cv)) (m5 : ga M' 0 (4170 + 6 * F + 5) = 64) (m6 : ga M' 0 4160 = nI (F + 1)) (mo : ∀ k, ¬ k = 4160 → ¬ (4170 + 6 * F ≤ k ∧ k ≤ 4170 + 6 * F + 5) → ga M' 0 k = ga M 0 k) (mn : gb M' 1 (32 + F) = pk8 w) (mno : ∀ k, 32 ≤ k → ¬ k = 32 + F → gb M' 1 k = gb M 1 k) : DR d' M' (F + 1) D := by
  obtain ⟨⟨a1, a2, a3⟩, ⟨c1, c2, c3⟩, e2, e3, e4, e5, e6, e7, e8, e9, e10, e11, e12⟩ := h
  obtain ⟨o1, o2, o3⟩ := or_bit hF e11 el
  have wet : ∀ k, wetB d' k = wetB d k := fun k => by unfold wetB; rw [dl]
  have hai : ∀ k, hailB d' k = hailB d k := fun k => by unfold hailB; rw [dl]
  refine ⟨⟨by omega, d8, m6⟩, ⟨c1, d9.trans c2, (mo _ (by omega) (by omega)).trans c3⟩, ⟨by rw [d12]; exact (mo _ (by omega) (by omega)).trans e2.1, by rw [d12]; exact e2.2⟩, (mo _ (by omega) (by omega)).trans e3, fun f hf => ?_, fun f hf => ?_, fun i hi => ?_, fun f hf => by rw [d7]; exact e7 f hf, fun k hk => ?_, fun k hk => by rw [wet]; exact e9 k hk, fun k hk => by rw [wet]; rw [hai] at hk; exact e10 k hk, by rw [d13]; exact o1, fun k k1 k2 => (mo k (by omega) (by omega)).trans (e12 k k1 k2)⟩
  · unfold DRF elbB
    rw [d1, d2, d3, d4, d13]
    by_cases c : f = F
    · subst c
      rw [upd_eq, upd_eq, upd_eq, upd_eq, o3]
      refine ⟨m0, m1, m2, m3, m4, m5, hl, ?_, ?_, ?_⟩
      · unfold nr; rw [nI_toInt (by omega)]; omega
      · unfold nr; rw [nI_toInt (by omega)]; omega
      · unfold nr; rw [nI_toInt (by omega)]; omega
    · rw [upd_ne _ _ c, upd_ne _ _ c, upd_ne _ _ c, upd_ne _ _ c, o2 f (by omega)]
      obtain ⟨z0, z1, z2, z3, z4, z5, z6⟩ := e4 f (by omega)
      exact ⟨(mo _ (by omega) (by omega)).trans z0, (mo _ (by omega) (by omega)).trans z1, (mo _ (by omega) (by omega)).trans z2, (mo _ (by omega) (by omega)).trans z3, (mo _ (by omega) (by omega)).trans z4, (mo _ (by omega) (by omega)).trans z5, z6⟩
  · rw [d0]
    by_cases c : f = F
    · subst c
      exact ⟨w, hw, by unfold vp_updL; rw [if_pos rfl], mn⟩
    · obtain ⟨u, u1, u2, u3⟩ := e5 f (by omega)
      exact ⟨u, u1, by unfold vp_updL; rw [if_neg c]; exact u2, (mno _ (by omega) (by omega)).trans u3⟩
  · rw [mo _ (by omega) (by omega), d7]; exact e6 i hi
  · rw [mo _ (by omega) (by omega), wet, hai]; exact e8 k hk
theorem farmer_part {t : Nat → Int32} {N e : Nat} {bt tk d M : Rc} {F D : Nat} (h : G t N e tk M) (hd : DR d M F D) (hv : gi bt 3 = gi M 20) (hb : isb (gi bt 3) = true) : PT t N e tk M ((fX1_readNewcomer bt tk d).bind (fun r2 => if r2.1 = (0 : Int32) then some ((0 : Int32), r2.2.1, r2.2.2.1, r2.2.2.2) else (fX1_readLag r2.2.1 r2.2.2.1 r2.2.2.2).bind (fun r5 => if r5.1 = (0 : Int32) then some ((0 : Int32), r2.2.1, r5.2.1, r5.2.2) else (fX1_readKnee r2.2.1 r5.2.1 r5.2.2).bind (fun r8 => if r8.1 = (0 : Int32) then some ((0 : Int32), r2.2.1, r8.2.1, r8.2.2) else (fX1_readCure r2.2.1 r8.2.1 r8.2.2).bind (fun r11 => if r11.1 = (0 : Int32) then some ((0 : Int32), r2.2.1, r11.2.1, r11.2.2) else some ((1 : Int32), r2.2.1, r11.2.1, r11.2.2)))))) (fX11_aFarmer M) := by
  have hF : F ≤ 8 := hd.1.1
  have h8 : gi d 8 = nI F := hd.1.2.1
  have c40 : (4160 : Int32).toNatClampNeg = 4160 := rfl
  have row : fX11_farmerRow (4160 : Int32) (nI F) = nI (4170 + 6 * F) := by
    unfold fX11_farmerRow
    rw [show ((4160 : Int32) + 10) = nI 4170 from rfl, show (6 : Int32) = nI 6 from rfl, nI_mul, nI_add]
  unfold fX1_readNewcomer fX11_aFarmer lt_
  dsimp only
  rw [c40, hd.1.2.2, h8, row]
  rcases Nat.lt_or_ge F 8 with hF8 | hF8
  · rw [if_pos (show nI F < 8 from nI_lt (b := 8) hF8 (by decide)), if_neg (show ¬ nI F = 8 from fun z => by have := (nI_eq (a := F) (b := 8) (by omega) (by decide)).mp z; omega)]
    obtain ⟨tk1, M1, m1, fa1, fk1, ⟨q1, fc1, e1, he1, -, hG1⟩ | ⟨q1, hY⟩⟩ := adv_G h
    · rw [m1, q1, bs, bs]
      dsimp only
      rw [if_neg (show ¬ (1 : Int32) = 0 by decide)]
      have fp1 := FA_FP fa1
      have hd1 : DR d M1 F D := DR_FA hd fa1
      rcases name_G hG1 with ⟨w, hw, r1, r2, r3, r4⟩ | ⟨tk2, M2, r1, r2, r3, r4, r5, r6⟩
      · rw [r1, r2, bs]
        dsimp only
        rw [if_neg (show ¬ (1 : Int32) = 0 by decide), if_neg (show ¬ (1 : Int32) = 0 by decide), r3]
        obtain ⟨rr, f1, f2, f3⟩ := find_eq hF (base := 32) (by decide) h8 hd1.2.2.2.2.2.1 (okw_okl hw) r4
        rw [f1, show (32 : Int32) = nI 32 from rfl, f2, bs, bs]
        rcases f3 with rfl | ⟨f, hf, rfl⟩
        · rw [if_pos rfl, if_pos rfl, show gi (si bt 2 (nI F)) 2 = nI F from rfl, gd_pos (inbn hF8 (by decide)), nI_clamp (by omega), r4, bs, nI_add, gd_pos (inbn (by omega) (by decide)), nI_clamp (by omega)]
          have hG2 : G t N e1 tk1 (sb M1 1 (vp_updL (gb M1 1) (32 + F) (pk8 w))) := G_M hG1 (fun _ _ _ => rfl) rfl
          have fp2 : FP M (sb M1 1 (vp_updL (gb M1 1) (32 + F) (pk8 w))) := FP_trans fp1 (FP_nm M1 (by omega) _)
          obtain ⟨tk3, M3, m3, fa3, fk3, ⟨q3, fc3, e3, he3, -, hG3⟩ | ⟨q3, hY⟩⟩ := adv_G hG2
          · rw [m3, q3, bs, bs, bs]
            dsimp only
            rw [if_neg (show ¬ (1 : Int32) = 0 by decide)]
            have hb2 : gi (si bt 2 (nI F)) 2 = nI F := rfl
            have fk13 : FK tk tk3 := FK_trans fk1 fk3
            have fp3 : FP M M3 := FP_trans fp2 (FA_FP fa3)
            have hA3 : ga M3 0 = ga M 0 := by rw [FA_ga fa3]; exact FA_ga fa1 0
            have hB3 : gb M3 1 = vp_updL (gb M 1) (32 + F) (pk8 w) := by rw [FA_gb fa3, gb_sb0, FA_gb fa1]
            have g3 : gi M3 20 = gi M 20 := (fa3.2 20 (by omega)).trans (fa1.2 20 (by omega))
            rcases lag_part (d := si (sb d 0 (vp_updL (gb d 0) F (pk5 w))) 8 (gi (sb d 0 (vp_updL (gb d 0) F (pk5 w))) 8 + 1)) hG3 hF8 hb2 with ⟨tk4, M4, lv, l1, l2, fk4, ⟨e4, he4, hG4⟩, hA4, hB4, fp4, g4, hlv⟩ | ⟨tk4, M4, l1, fk4, fp4, l2, hX⟩
            · unfold lt_ at l2
              rw [l1, bs, l2]
              dsimp only
              rw [if_neg (show ¬ (1 : Int32) = 0 by decide)]
              have z4 : ga M4 0 4160 = nI F := by rw [hA4, upd_ne _ _ (by omega), hA3]; exact hd.1.2.2
              rcases knee_part (d := sa (si (sb d 0 (vp_updL (gb d 0) F (pk5 w))) 8 (gi (sb d 0 (vp_updL (gb d 0) F (pk5 w))) 8 + 1)) 1 (upd (ga (si (sb d 0 (vp_updL (gb d 0) F (pk5 w))) 8 (gi (sb d 0 (vp_updL (gb d 0) F (pk5 w))) 8 + 1)) 1) F lv)) hG4 hF8 hb2 z4 with ⟨tk5, M5, fv, sv, el, k1, k2, fk5, ⟨e5, he5, hG5⟩, hA5, hB5, fp5, g5, hfv, hsv⟩ | ⟨tk5, d5, M5, k1, fk5, fp5, hno⟩
              · rw [k1, bs, k2]
                dsimp only
                rw [if_neg (show ¬ (1 : Int32) = 0 by decide)]
                have z5 : ga M5 0 4160 = nI F := by rw [hA5, upd_ne _ _ (by omega), upd_ne _ _ (by omega)]; exact z4
                generalize hdk : si (sa (sa (sa (si (sb d 0 (vp_updL (gb d 0) F (pk5 w))) 8 (gi (sb d 0 (vp_updL (gb d 0) F (pk5 w))) 8 + 1)) 1 (upd (ga (si (sb d 0 (vp_updL (gb d 0) F (pk5 w))) 8 (gi (sb d 0 (vp_updL (gb d 0) F (pk5 w))) 8 + 1)) 1) F lv)) 2 (upd (ga (sa (si (sb d 0 (vp_updL (gb d 0) F (pk5 w))) 8 (gi (sb d 0 (vp_updL (gb d 0) F (pk5 w))) 8 + 1)) 1 (upd (ga (si (sb d 0 (vp_updL (gb d 0) F (pk5 w))) 8 (gi (sb d 0 (vp_updL (gb d 0) F (pk5 w))) 8 + 1)) 1) F lv)) 2) F (nI fv))) 3 (upd (ga (sa (si (sb d 0 (vp_updL (gb d 0) F (pk5 w))) 8 (gi (sb d 0 (vp_updL (gb d 0) F (pk5 w))) 8 + 1)) 1 (upd (ga (si (sb d 0 (vp_updL (gb d 0) F (pk5 w))) 8 (gi (sb d 0 (vp_updL (gb d 0) F (pk5 w))) 8 + 1)) 1) F lv)) 3) F (nI sv))) 13 (if el = true then gi (sa (si (sb d 0 (vp_updL (gb d 0) F (pk5 w))) 8 (gi (sb d 0 (vp_updL (gb d 0) F (pk5 w))) 8 + 1)) 1 (upd (ga (si (sb d 0 (vp_updL (gb d 0) F (pk5 w))) 8 (gi (sb d 0 (vp_updL (gb d 0) F (pk5 w))) 8 + 1)) 1) F lv)) 13 ||| nI (2 ^ F) else gi (sa (si (sb d 0 (vp_updL (gb d 0) F (pk5 w))) 8 (gi (sb d 0 (vp_updL (gb d 0) F (pk5 w))) 8 + 1)) 1 (upd (ga (si (sb d 0 (vp_updL (gb d 0) F (pk5 w))) 8 (gi (sb d 0 (vp_updL (gb d 0) F (pk5 w))) 8 + 1)) 1) F lv)) 13) = dk
                rcases cure_part (d := dk) hG5 hF8 hb2 z5 el with ⟨tk6, M6, cv, c1, c2, fk6, ⟨e6, he6, hG6⟩, ⟨n3, n4, n5, n6, n7⟩, hB6, fp6, g6, hcv⟩ | ⟨tk6, d6, M6, c1, fk6, fp6, hno⟩
                · rw [c1, c2, bs]
                  dsimp only
                  rw [if_neg (show ¬ (1 : Int32) = 0 by decide)]
                  refine ⟨_, tk6, _, M6, FK_trans fk13 (FK_trans fk4 (FK_trans fk5 fk6)), FP_trans fp3 (FP_trans fp4 (FP_trans fp5 fp6)), Or.inl ⟨rfl, rfl, ⟨e6, by omega, hG6⟩, ⟨F + 1, D, ?_⟩, ?_, hb⟩⟩
                  · refine DR_farmer hd hF8 hw hlv hfv hsv hcv ?_ ?_ ?_ ?_ ?_ ?_ ?_ ?_ ?_ ?_ ?_ ?_ ?_ ?_ n3 n4 n5 n6 (fun k k1 k2 => ?_) ?_ (fun k k1 k2 => ?_)
                    · rw [← hdk]
                      show gi d 8 + 1 = _
                      rw [h8, nI_1]
                    · rw [← hdk]; rfl
                    · rw [← hdk]; rfl
                    · rw [← hdk]; rfl
                    · rw [← hdk]; rfl
                    · rw [← hdk]; rfl
                    · rw [← hdk]; rfl
                    · rw [← hdk]; rfl
                    · rw [← hdk]; rfl
                    · rw [← hdk]; rfl
                    · rw [← hdk]; rfl
                    · rw [n7 _ (by omega) (by omega) (by omega) (by omega), hA5, upd_ne _ _ (by omega), upd_ne _ _ (by omega), hA4, upd_eq]
                    · rw [n7 _ (by omega) (by omega) (by omega) (by omega), hA5, upd_ne _ _ (by omega), upd_eq]
                    · rw [n7 _ (by omega) (by omega) (by omega) (by omega), hA5, upd_eq]
                    · rw [n7 _ (by omega) (by omega) (by omega) (by omega), hA5, upd_ne _ _ (by omega), upd_ne _ _ (by omega), hA4, upd_ne _ _ (by omega), hA3]
                    · rw [hB6, hB5, hB4, hB3]; unfold vp_updL; rw [if_pos rfl]
                    · rw [hB6, hB5, hB4, hB3]; unfold vp_updL; rw [if_neg k2]
                  · show gi bt 3 = _
                    rw [g6, g5, g4, g3]; exact hv
                · rw [c1, bs]
                  dsimp only
                  rw [if_pos rfl]
                  refine ⟨si bt 2 (nI F), tk6, d6, M6, FK_trans fk13 (FK_trans fk4 (FK_trans fk5 fk6)), FP_trans fp3 (FP_trans fp4 (FP_trans fp5 fp6)), ?_⟩
                  rcases hno with ⟨z1, z2⟩ | ⟨z1, z2⟩
                  · exact Or.inr (Or.inl ⟨rfl, z1, z2⟩)
                  · exact Or.inr (Or.inr ⟨rfl, z1, z2⟩)
              · rw [k1, bs]
                dsimp only
                rw [if_pos rfl]
                refine ⟨si bt 2 (nI F), tk5, d5, M5, FK_trans fk13 (FK_trans fk4 fk5), FP_trans fp3 (FP_trans fp4 fp5), ?_⟩
                rcases hno with ⟨z1, z2⟩ | ⟨z1, z2⟩
                · exact Or.inr (Or.inl ⟨rfl, z1, z2⟩)
                · exact Or.inr (Or.inr ⟨rfl, z1, z2⟩)
            · unfold lt_ at l2
              rw [l1, bs, l2]
              dsimp only
              rw [if_pos rfl]
              exact PT_X (FK_trans fk13 fk4) (FP_trans fp3 fp4) hX _ _
          · rw [m3, q3, bs, bs, bs]
            dsimp only
            rw [if_pos rfl, inWords_bad hY.2.2.1, bs, if_neg (show ¬ (-1 : Int32) = 4 by decide), if_neg (show ¬ (-1 : Int32) = 5 by decide)]
            obtain ⟨M', z1, z2, z3⟩ := fails_Y hY 2
            rw [z1]
            exact PT_X (FK_trans fk1 fk3) (FP_trans fp2 (FP_trans (FA_FP fa3) z2)) z3 _ _
        · rw [if_neg (nI_m1 (by omega)), if_neg (nI_m1 (by omega))]
          obtain ⟨tk', M', z1, z2, z3, z4, z5⟩ := fail_G hG1 (k := 3) (by decide) (by decide)
          rw [show fX8_fail 3 tk1 = _ from z1, show fX11_fails 3 M1 = _ from z2, bs]
          dsimp only
          rw [if_pos rfl]
          exact PT_X (FK_trans fk1 z3) (FP_trans fp1 z4) z5 _ _
      · rw [r1, r2, bs]
        dsimp only
        rw [if_pos rfl, if_pos rfl, r3, bs]
        dsimp only
        rw [if_pos rfl]
        exact PT_X (FK_trans fk1 r4) (FP_trans fp1 r5) r6 _ _
    · rw [m1, q1, bs, bs]
      dsimp only
      rw [if_pos rfl, bs]
      dsimp only
      rw [if_pos rfl, isName_Y hY, bs, if_pos rfl]
      obtain ⟨M', z1, z2, z3⟩ := fails_Y hY 2
      rw [z1]
      exact PT_X fk1 (FP_trans (FA_FP fa1) z2) z3 _ _
  · have e8 : F = 8 := by omega
    subst e8
    rw [if_neg (show ¬ nI 8 < 8 by decide), if_pos (show nI 8 = 8 from rfl)]
    obtain ⟨tk', M', z1, z2, z3, z4, z5⟩ := fail_G h (k := 6) (by decide) (by decide)
    rw [show fX8_fail 6 tk = _ from z1, show fX11_fails 6 M = _ from z2, bs]
    dsimp only
    rw [if_pos rfl]
    exact PT_X z3 z4 z5 _ _
