/-! ===== (B) the tape is fed ===== -/
def shf (i : Nat) : Int32 := zI (24 - 8 * (i : Int))
theorem shf_step : ∀ i, i < 4 → shf i + (-8) = shf (i + 1) ∧ ¬ shf i < 0 := by decide +kernel
theorem shf_4 : shf 4 < 0 := by decide +kernel
theorem i8_eq {x y : Int32} (h : ∀ k, k < 8 → x.toBitVec.getLsbD k = y.toBitVec.getLsbD k) : x.toInt8 = y.toInt8 := by
  apply Int8.toBitVec_inj.mp
  rw [Int32.toBitVec_toInt8, Int32.toBitVec_toInt8, BitVec.signExtend_eq_setWidth_of_le _ (by decide), BitVec.signExtend_eq_setWidth_of_le _ (by decide)]
  apply BitVec.eq_of_getLsbD_eq
  intro k hk
  rw [BitVec.getLsbD_setWidth, BitVec.getLsbD_setWidth, h k hk]
theorem sh_u : ∀ i, i < 4 → (((shf i).toUInt32 &&& Int32.toUInt32 31).toBitVec % 32).toNat = 24 - 8 * i ∧ ((shf i &&& 31).toBitVec.smod 32).toNat = 24 - 8 * i := by decide +kernel
theorem byte_eq (p : Int32) {i : Nat} (hi : i < 4) : ((p.toUInt32 >>> ((shf i).toUInt32 &&& Int32.toUInt32 31)).toInt32).toInt8 = (p >>> (shf i &&& 31)).toInt8 := by
  apply i8_eq
  intro k hk
  obtain ⟨e1, e2⟩ := sh_u i hi
  show (p.toUInt32 >>> ((shf i).toUInt32 &&& Int32.toUInt32 31)).toBitVec.getLsbD k = (p >>> (shf i &&& 31)).toBitVec.getLsbD k
  rw [UInt32.toBitVec_shiftRight, Int32.toBitVec_shiftRight]
  show (p.toBitVec >>> (((shf i).toUInt32 &&& Int32.toUInt32 31).toBitVec % 32).toNat).getLsbD k = (p.toBitVec.sshiftRight ((shf i &&& 31).toBitVec.smod 32).toNat).getLsbD k
  rw [e1, e2, BitVec.getLsbD_ushiftRight, BitVec.getLsbD_sshiftRight, if_pos (by omega)]
  have : ¬ 32 ≤ k := by omega
  simp [this]
theorem nar_rng (x : Int32) : -128 ≤ (vp_nar .byte (x.toInt8.toInt32)).toInt ∧ (vp_nar .byte (x.toInt8.toInt32)).toInt < 128 := by
  rw [pk_vb, Int8.toInt_toInt32]
  have h1 := Int8.toInt_lt x.toInt8
  have h2 := Int8.le_toInt x.toInt8
  omega
theorem four_eq (p : Int32) {tk M : Rc} {n : Nat} (hn : n + 4 ≤ 900) (h0 : ga tk 0 = ga M 8) (h2 : gi tk 2 = nI n) (h10 : gi M 10 = nI n) (hr : ∀ k, -128 ≤ (ga tk 0 k).toInt ∧ (ga tk 0 k).toInt < 128) : ∃ g, fX8_append p tk = some (si (sa tk 0 g) 2 (nI (n + 4))) ∧ fX11_four p M = some (si (sa M 8 g) 10 (nI (n + 4))) ∧ ∀ k, -128 ≤ (g k).toInt ∧ (g k).toInt < 128 := by
  obtain ⟨r, k, l1, l2, g, rfl, rfl, hg⟩ := loop_rel (b := fX8_append_L3 p) (c := fX11_four_L3 p) (fun i s t => ∃ g : Nat → Int32, s = (shf i, si (sa tk 0 g) 2 (nI (n + i))) ∧ t = (shf i, si (sa M 8 g) 10 (nI (n + i))) ∧ ∀ k, -128 ≤ (g k).toInt ∧ (g k).toInt < 128) (fun r t => ∃ g : Nat → Int32, r = si (sa tk 0 g) 2 (nI (n + 4)) ∧ t = si (sa M 8 g) 10 (nI (n + 4)) ∧ ∀ k, -128 ≤ (g k).toInt ∧ (g k).toInt < 128) 4 (fun i s t hi h => by
      obtain ⟨g, rfl, rfl, hg⟩ := h
      left
      obtain ⟨e1, e2⟩ := shf_step i hi
      unfold fX8_append_L3 fX11_four_L3 lt_
      dsimp only
      rw [if_neg e2, if_neg e2, show gi (si (sa tk 0 g) 2 (nI (n + i))) 2 = nI (n + i) from rfl, show gi (si (sa M 8 g) 10 (nI (n + i))) 10 = nI (n + i) from rfl, if_neg (show ¬ (900 : Int32) ≤ nI (n + i) from nI_ge (b := 900) (by omega) (by decide)), gd_pos (inbn (by omega) (by decide)), gd_pos (inbn (by omega) (by decide)), nI_clamp (by omega), e1, byte_eq p hi]
      refine ⟨_, _, rfl, rfl, upd g (n + i) (vp_nar .byte ((p >>> (shf i &&& 31)).toInt8.toInt32)), ?_, ?_, fun k => ?_⟩
      · show (shf (i + 1), si (si (sa (sa tk 0 g) 0 _) 2 (nI (n + i))) 2 (nI (n + i) + 1)) = _
        rw [si_si, sa_sa, nI_1]
        rfl
      · show (shf (i + 1), si (si (sa (sa M 8 g) 8 _) 10 (nI (n + i))) 10 (nI (n + i) + 1)) = _
        rw [si_si, sa_sa, nI_1]
        rfl
      · unfold upd
        split
        · exact nar_rng _
        · exact hg k) (fun s t h => by
      obtain ⟨g, rfl, rfl, hg⟩ := h
      unfold fX8_append_L3 fX11_four_L3
      dsimp only
      rw [if_pos shf_4, if_pos shf_4]
      exact ⟨_, _, rfl, rfl, g, rfl, rfl, hg⟩) 4 0 ((24 : Int32), tk) ((24 : Int32), M) (by omega) ⟨ga tk 0, by rw [sa_id, Nat.add_zero, si_id tk 2 h2]; rfl, by rw [h0, sa_id, Nat.add_zero, si_id M 10 h10]; rfl, hr⟩
  refine ⟨g, ?_, ?_, hg⟩
  · unfold fX8_append
    rw [l1]; rfl
  · unfold fX11_four
    rw [l2]; rfl
theorem rel_tape {sg : Nat → Rc} {M tk : Rc} (h : Rel sg M) (g : Nat → Int32) (v : Int32) (hk : RK tk (si (sa M 8 g) 10 v) ∧ KWD tk) : Rel (va_up sg 15 tk) (si (sa M 8 g) 10 v) := by
  obtain ⟨h1, h2, h3, h4, h5, h6, h7, h8, h9, h10⟩ := h
  exact ⟨h1, h2, h3, h4, h5, hk, h7, h8, h9, h10⟩
theorem b_feed : BT_feed Rel := by
  intro sg M hR p1 p2 p3 p4 p5
  obtain ⟨⟨t1, t2, ⟨t3, t4⟩, t5, t6, t7⟩, hw⟩ := hR.2.2.2.2.2.1
  obtain ⟨n, e1, hn⟩ : ∃ n : Nat, gi (sg 15) 2 = nI n ∧ n ≤ 900 := ⟨(gi (sg 15) 2).toInt.toNat, i_nat t3, by omega⟩
  have e2 : gi M 10 = nI n := t2.symm.trans e1
  unfold fX10_feed fX11_feed
  rw [e1, e2, show (20 : Int32) = nI 20 from rfl, nI_add]
  by_cases c : n + 20 ≤ 900
  · rw [if_pos (show nI (n + 20) ≤ 900 from nI_le (b := 900) c (by decide)), if_pos (show nI (n + 20) ≤ 900 from nI_le (b := 900) c (by decide))]
    obtain ⟨g1, a1, a2, a3⟩ := four_eq p1 (n := n) (by omega) t1 e1 e2 t7
    obtain ⟨g2, b1, b2, b3⟩ := four_eq p2 (tk := si (sa (sg 15) 0 g1) 2 (nI (n + 4))) (M := si (sa M 8 g1) 10 (nI (n + 4))) (n := n + 4) (by omega) rfl rfl rfl a3
    obtain ⟨g3, c1, c2, c3⟩ := four_eq p3 (tk := si (sa (si (sa (sg 15) 0 g1) 2 (nI (n + 4))) 0 g2) 2 (nI (n + 4 + 4))) (M := si (sa (si (sa M 8 g1) 10 (nI (n + 4))) 8 g2) 10 (nI (n + 4 + 4))) (n := n + 4 + 4) (by omega) rfl rfl rfl b3
    have k2 : si (sa (si (sa (sg 15) 0 g1) 2 (nI (n + 4))) 0 g2) 2 (nI (n + 4 + 4)) = si (sa (sg 15) 0 g2) 2 (nI (n + 4 + 4)) := by
      show si (si (sa (sa (sg 15) 0 g1) 0 g2) 2 (nI (n + 4))) 2 (nI (n + 4 + 4)) = _
      rw [si_si, sa_sa]
    have m2 : si (sa (si (sa M 8 g1) 10 (nI (n + 4))) 8 g2) 10 (nI (n + 4 + 4)) = si (sa M 8 g2) 10 (nI (n + 4 + 4)) := by
      show si (si (sa (sa M 8 g1) 8 g2) 10 (nI (n + 4))) 10 (nI (n + 4 + 4)) = _
      rw [si_si, sa_sa]
    rw [k2] at b1 c1
    rw [m2] at b2 c2
    have k3 : si (sa (si (sa (sg 15) 0 g2) 2 (nI (n + 4 + 4))) 0 g3) 2 (nI (n + 4 + 4 + 4)) = si (sa (sg 15) 0 g3) 2 (nI (n + 4 + 4 + 4)) := by
      show si (si (sa (sa (sg 15) 0 g2) 0 g3) 2 (nI (n + 4 + 4))) 2 (nI (n + 4 + 4 + 4)) = _
      rw [si_si, sa_sa]
    have m3 : si (sa (si (sa M 8 g2) 10 (nI (n + 4 + 4))) 8 g3) 10 (nI (n + 4 + 4 + 4)) = si (sa M 8 g3) 10 (nI (n + 4 + 4 + 4)) := by
      show si (si (sa (sa M 8 g2) 8 g3) 10 (nI (n + 4 + 4))) 10 (nI (n + 4 + 4 + 4)) = _
      rw [si_si, sa_sa]
    rw [k3] at c1
    rw [m3] at c2
    obtain ⟨g4, d1, d2, d3⟩ := four_eq p4 (tk := si (sa (sg 15) 0 g3) 2 (nI (n + 4 + 4 + 4))) (M := si (sa M 8 g3) 10 (nI (n + 4 + 4 + 4))) (n := n + 4 + 4 + 4) (by omega) rfl rfl rfl c3
    have k4 : si (sa (si (sa (sg 15) 0 g3) 2 (nI (n + 4 + 4 + 4))) 0 g4) 2 (nI (n + 4 + 4 + 4 + 4)) = si (sa (sg 15) 0 g4) 2 (nI (n + 4 + 4 + 4 + 4)) := by
      show si (si (sa (sa (sg 15) 0 g3) 0 g4) 2 (nI (n + 4 + 4 + 4))) 2 (nI (n + 4 + 4 + 4 + 4)) = _
      rw [si_si, sa_sa]
    have m4 : si (sa (si (sa M 8 g3) 10 (nI (n + 4 + 4 + 4))) 8 g4) 10 (nI (n + 4 + 4 + 4 + 4)) = si (sa M 8 g4) 10 (nI (n + 4 + 4 + 4 + 4)) := by
      show si (si (sa (sa M 8 g3) 8 g4) 10 (nI (n + 4 + 4 + 4))) 10 (nI (n + 4 + 4 + 4 + 4)) = _
      rw [si_si, sa_sa]
    rw [k4] at d1
    rw [m4] at d2
    obtain ⟨g5, f1, f2, f3⟩ := four_eq p5 (tk := si (sa (sg 15) 0 g4) 2 (nI (n + 4 + 4 + 4 + 4))) (M := si (sa M 8 g4) 10 (nI (n + 4 + 4 + 4 + 4))) (n := n + 4 + 4 + 4 + 4) (by omega) rfl rfl rfl d3
    have k5 : si (sa (si (sa (sg 15) 0 g4) 2 (nI (n + 4 + 4 + 4 + 4))) 0 g5) 2 (nI (n + 4 + 4 + 4 + 4 + 4)) = si (sa (sg 15) 0 g5) 2 (nI (n + 4 + 4 + 4 + 4 + 4)) := by
      show si (si (sa (sa (sg 15) 0 g4) 0 g5) 2 (nI (n + 4 + 4 + 4 + 4))) 2 (nI (n + 4 + 4 + 4 + 4 + 4)) = _
      rw [si_si, sa_sa]
    have m5 : si (sa (si (sa M 8 g4) 10 (nI (n + 4 + 4 + 4 + 4))) 8 g5) 10 (nI (n + 4 + 4 + 4 + 4 + 4)) = si (sa M 8 g5) 10 (nI (n + 4 + 4 + 4 + 4 + 4)) := by
      show si (si (sa (sa M 8 g4) 8 g5) 10 (nI (n + 4 + 4 + 4 + 4))) 10 (nI (n + 4 + 4 + 4 + 4 + 4)) = _
      rw [si_si, sa_sa]
    rw [k5] at f1
    rw [m5] at f2
    rw [a1, a2]
    dsimp only [Option.bind]
    rw [b1, b2]
    dsimp only
    rw [c1, c2]
    dsimp only
    rw [d1, d2]
    dsimp only
    rw [f1, f2]
    refine ⟨_, _, rfl, rfl, rfl, rel_tape hR g5 _ ⟨⟨rfl, rfl, ?_, t5, t6, f3⟩, hw⟩⟩
    show 0 ≤ (nI (n + 4 + 4 + 4 + 4 + 4)).toInt ∧ (nI (n + 4 + 4 + 4 + 4 + 4)).toInt ≤ 900
    rw [nI_toInt (by omega)]; omega
  · rw [if_neg (show ¬ nI (n + 20) ≤ 900 from nI_ge (a := 900) (by omega) (by omega)), if_neg (show ¬ nI (n + 20) ≤ 900 from nI_ge (a := 900) (by omega) (by omega))]
    refine ⟨_, _, rfl, rfl, rfl, ?_⟩
    rw [va_up_id sg 15 rfl]
    exact hR
