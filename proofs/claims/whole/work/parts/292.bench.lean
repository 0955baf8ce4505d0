/-! ===== (B) bench ===== -/
/-- what a text read changes at most -/
def FX (M M' : Rc) : Prop := gi M' 25 = gi M 25 ∧ gi M' 26 = gi M 26 ∧ gi M' 31 = gi M 31 ∧ gi M' 36 = gi M 36 ∧ gi M' 37 = gi M 37 ∧ gl M' 3 = gl M 3 ∧ gl M' 4 = gl M 4 ∧ ga M' 5 = ga M 5 ∧ ga M' 6 = ga M 6 ∧ ga M' 30 = ga M 30 ∧ ga M' 35 = ga M 35 ∧ gb M' 7 = gb M 7 ∧ (∀ k, 1040 ≤ k → k < 4160 → ga M' 0 k = ga M 0 k) ∧ (∀ k, 8 ≤ k → k < 32 → gb M' 1 k = gb M 1 k)
theorem RM_frame {b z M M' : Rc} {i : Nat} (hi : i < 3) (h1 : ∀ k, 1040 ≤ k → k < 4160 → ga M' 0 k = ga M 0 k) (h2 : ∀ k, 8 ≤ k → k < 32 → gb M' 1 k = gb M 1 k) (h : RM b z M i) : RM b z M' i := ⟨RB_frame (fun k hk => h1 _ (by omega) (by omega)) (fun k hk => h2 _ (by omega) (by omega)) h.1, RZ_frame (h1 _ (by omega) (by omega)) (fun k k1 k2 => h1 _ (by omega) (by omega)) rfl h.2⟩
theorem rel_tx {sg sg' : Nat → Rc} {M M' : Rc} (hR : Rel sg M) {st : Int32} (e0 : sg' 0 = si (sg 0) 16 st) (m2 : gi M' 2 = st) (h1 : RB (sg' 1) M' 0 0) (h2 : RZ (sg' 2) (sg' 1) M' 0) (em : ∀ j, 6 ≤ j → j ≤ 14 → sg' j = sg j) (h15 : RK (sg' 15) M') (h15b : KWD (sg' 15)) (e18 : sg' 18 = sg 18) (e23 : sg' 23 = sg 23) (hx : FX M M') : Rel sg' M' := by
  obtain ⟨⟨r1, r2, r3, r4, r5⟩, -, -, ⟨q1, q2, q3⟩, h5, -, h7, h8, h9, h10⟩ := hR
  obtain ⟨x25, x26, x31, x36, x37, l3, l4, y5, y6, y30, y35, z7, fa, fb⟩ := hx
  refine ⟨?_, h1, h2, ?_, ?_, ⟨h15, h15b⟩, ?_, ?_, x25.trans h9, x26.trans h10⟩
  · rw [e0]
    exact ⟨m2.symm, r2.trans l3.symm, r3.trans l4.symm, r4.trans x37.symm, r5⟩
  · unfold RMs
    rw [e0, em 6 (by omega) (by omega), em 7 (by omega) (by omega), em 9 (by omega) (by omega), em 10 (by omega) (by omega), em 12 (by omega) (by omega), em 13 (by omega) (by omega)]
    exact ⟨fun z => RM_frame (by omega) fa fb (q1 z), fun z => RM_frame (by omega) fa fb (q2 z), fun z => RM_frame (by omega) fa fb (q3 z)⟩
  · rw [em 14 (by omega) (by omega)]
    obtain ⟨t1, t2, t3, t4⟩ := h5
    exact ⟨t1.trans y5.symm, t2.trans y6.symm, t3.trans z7.symm, t4⟩
  · rw [e18]
    unfold RL_ at *
    rw [x36, y35]
    exact h7
  · rw [e23]
    unfold RW_ at *
    rw [x31, y30]
    exact h8
theorem FX_FB {M M' : Rc} (h : FB M M') : FX M M' := by
  obtain ⟨h1, h2, h3, h4⟩ := h
  exact ⟨h1 _ (by omega) (by omega), h1 _ (by omega) (by omega), h1 _ (by omega) (by omega), h1 _ (by omega) (by omega), h1 _ (by omega) (by omega), h2 _, h2 _, h3 _ (by omega), h3 _ (by omega), h3 _ (by omega), h3 _ (by omega), h4 _, fun k _ _ => by rw [h3 0 (by omega)], fun k _ _ => by rw [h4 1]⟩
theorem FX_FP {M M' : Rc} (h : FP M M') : FX M M' := by
  obtain ⟨h1, h2, h3, h4, h5, h6⟩ := h
  have g : ∀ j, 24 ≤ j → gi M' j = gi M j := fun j hj => h1 j (by omega) (by omega) (by omega) (by omega)
  exact ⟨g _ (by omega), g _ (by omega), g _ (by omega), g _ (by omega), g _ (by omega), h2 _, h2 _, h3 _ (by omega), h3 _ (by omega), h3 _ (by omega), h3 _ (by omega), h4 _ (by omega), fun k _ hk => h5 k hk, fun k _ hk => h6 k hk⟩
theorem FX_FE {M M' : Rc} (h : FE M M') : FX M M' := by
  obtain ⟨h1, h2, h3, h4, h5, h6⟩ := h
  exact ⟨h1 _, h1 _, h1 _, h1 _, h1 _, h2 _, h2 _, h3 _ (by omega), h3 _ (by omega), h3 _ (by omega), h3 _ (by omega), h4 _ (by omega), fun k hk _ => h5 k hk, fun k hk _ => h6 k hk⟩
theorem FX_trans {A B C : Rc} (h : FX A B) (k : FX B C) : FX A C := by
  obtain ⟨a1, a2, a3, a4, a5, a6, a7, a8, a9, a10, a11, a12, a13, a14⟩ := h
  obtain ⟨b1, b2, b3, b4, b5, b6, b7, b8, b9, b10, b11, b12, b13, b14⟩ := k
  exact ⟨b1.trans a1, b2.trans a2, b3.trans a3, b4.trans a4, b5.trans a5, b6.trans a6, b7.trans a7, b8.trans a8, b9.trans a9, b10.trans a10, b11.trans a11, b12.trans a12, fun k x y => (b13 k x y).trans (a13 k x y), fun k x y => (b14 k x y).trans (a14 k x y)⟩
theorem FX_si (M : Rc) {k : Nat} (hk : k < 25) (v : Int32) : FX M (si M k v) := ⟨by rw [gi_si, if_neg (by omega)], by rw [gi_si, if_neg (by omega)], by rw [gi_si, if_neg (by omega)], by rw [gi_si, if_neg (by omega)], by rw [gi_si, if_neg (by omega)], rfl, rfl, rfl, rfl, rfl, rfl, rfl, fun _ _ _ => rfl, fun _ _ _ => rfl⟩
theorem KWD_FK {tk tk' : Rc} (h : FK tk tk') (hk : KWD tk) : KWD tk' := fun k h' => by rw [h.2.2]; exact hk k h'
/-- a text too long, or of a length that is none -/
theorem out_eq {tk M : Rc} (hK : RK tk M) (p1 : Int32) : (fX10_outside p1 0 (gi tk 2) = 1 ∧ fX11_begins p1 900 M = some ((0 : Int32), M)) ∨ (fX10_outside p1 0 (gi tk 2) = 0 ∧ ∃ N, p1 = nI N ∧ N ≤ 900 ∧ nI N ≤ gi M 10) := by
  obtain ⟨k0, k2, k2b, k12, k13, kb⟩ := hK
  unfold fX10_outside fX11_begins
  rw [k2] at k2b ⊢
  by_cases c1 : p1 < 0
  · rw [if_pos c1, if_pos c1]
    exact Or.inl ⟨rfl, rfl⟩
  · rw [if_neg c1, if_neg c1]
    rw [i_lt, i_0] at c1
    by_cases c2 : gi M 10 < p1
    · rw [if_pos c2, if_neg (by rw [i_le]; rw [i_lt] at c2; omega)]
      exact Or.inl ⟨rfl, rfl⟩
    · rw [if_pos (by rw [i_le]; rw [i_lt] at c2; omega)]
      rw [i_lt] at c2
      exact Or.inr ⟨rfl, p1.toInt.toNat, i_nat (by omega), by omega, by rw [← i_nat (by omega), i_le]; omega⟩
/-- the text is read on both sides -/
theorem isRead_eq {bt tk d M : Rc} (hK : RK tk M) (hW : KWD tk) {N : Nat} (h9 : N ≤ 900) (hN : nI N ≤ gi M 10) : ∃ (bt' tk' d' M0 M1 M2 M3 : Rc) (fl : Int32), fX11_begins (nI N) 900 M = some ((1 : Int32), M0) ∧ fX11_plain 4160 M0 = some M1 ∧ M2 = si M1 20 0 ∧ loopF fX11_bench_L31 ((1 : Int32), M2) = some M3 ∧ FK tk tk' ∧ FX M M3 ∧ ga M3 8 = ga M 8 ∧ gi M3 10 = 0 ∧ (∀ k, k < 4160 → ga M3 0 k = ga M 0 k) ∧ (∀ k, k < 32 → gb M3 1 k = gb M 1 k) ∧ ((fl = 1 ∧ gi tk' 12 = 0 ∧ gi tk' 13 = -1 ∧ gi M3 18 = 0 ∧ gi M3 17 = -1 ∧ ∃ F D, DR d' M3 F D ∧ fX1_isRead (nI N) bt tk d = fX1_isRead_J75 1 bt' tk' d') ∨ (fl = 0 ∧ X_ tk' M3 ∧ fX1_isRead (nI N) bt tk d = some ((0 : Int32), bt', tk', d'))) := by
  obtain ⟨tk0, M0, x, b1, b2, fb, fk, f10, f19, hh⟩ := begin_eq hK hW hN h9
  obtain ⟨d0, y1, y2, y3, y4, y5, y6, y7, y8⟩ := empty_eq d
  obtain ⟨M1, z1, z2, z3, z4, z5, z6⟩ := plain_eq M0
  have hd0 : DR d0 (si M1 20 0) 0 0 := DR_0 y2 y3 y4 y5 y6 y7 y8 z6
  have fp0 : FP M0 (si M1 20 0) := FP_trans z2 (FP_si _ (by omega) _)
  have eC : fX1_isRead (nI N) bt tk d = (loopF fX1_isRead_L23 (x, (0 : Int32), si bt 3 0, tk0, d0)).bind (fun o23 => fX1_isRead_J75 o23.1 o23.2.1 o23.2.2.1 o23.2.2.2) := by
    unfold fX1_isRead lt_
    dsimp only
    rw [y1, bs, b1, bs]
  have fr : ∀ {M3 : Rc}, FP (si M1 20 0) M3 → FX M M3 ∧ ga M3 8 = ga M 8 ∧ gi M3 10 = 0 ∧ (∀ k, k < 4160 → ga M3 0 k = ga M 0 k) ∧ (∀ k, k < 32 → gb M3 1 k = gb M 1 k) := fun {M3} h => by
    have q := FP_trans fp0 h
    refine ⟨FX_trans (FX_FB fb) (FX_FP q), ?_, ?_, fun k hk => ?_, fun k hk => ?_⟩
    · rw [q.2.2.1 8 (by omega), fb.2.2.1 8 (by omega)]
    · rw [q.1 10 (by omega) (by omega) (by omega) (by omega), f10]
    · rw [q.2.2.2.2.1 k hk, fb.2.2.1 0 (by omega)]
    · rw [q.2.2.2.2.2 k hk, fb.2.2.2 1]
  rcases hh with ⟨rfl, e, he, hG⟩ | ⟨rfl, hY⟩
  · have hG2 : G (ga tk 0) N e tk0 (si M1 20 0) := G_M hG (fun j j1 j2 => by rw [gi_si, if_neg (by omega)]; exact z3 j) (z4 9 (by omega))
    have he2 : gi (si M1 20 0) 12 = 0 ∨ 0 < e := by
      rcases he with w | w
      · exact Or.inl ((z3 12).trans w)
      · exact Or.inr w
    obtain ⟨bt', tk', d', M3, g1, g2, g3, g4⟩ := read_go (t := ga tk 0) (N := N) (N + 1 - e) e 0 (si bt 3 0) tk0 d0 (si M1 20 0) 0 0 (Nat.le_refl _) hG2 hd0 rfl rfl he2
    obtain ⟨v1, v2, v3, v4, v5⟩ := fr g2
    refine ⟨bt', tk', d', M0, M1, si M1 20 0, M3, ?_⟩
    rcases g4 with ⟨c1, c2, c3, c4, c5, F, D, hD⟩ | ⟨c1, hX⟩
    · refine ⟨1, b2, z1, rfl, g3, FK_trans fk g1, v1, v2, v3, v4, v5, Or.inl ⟨rfl, c2, c3, c4, c5, F, D, hD, ?_⟩⟩
      rw [eC, show (0 : Int32) = nI 0 from rfl] at *
      rw [c1, bs]
    · refine ⟨0, b2, z1, rfl, g3, FK_trans fk g1, v1, v2, v3, v4, v5, Or.inr ⟨rfl, hX, ?_⟩⟩
      have c1' : loopF fX1_isRead_L23 ((1 : Int32), (0 : Int32), si bt 3 0, tk0, d0) = some ((0 : Int32), bt', tk', d') := c1
      rw [eC, c1', bs]
      rfl
  · have hY2 : Y_ tk0 (si M1 20 0) := Y_M hY (fun j j1 j2 => by rw [gi_si, if_neg (by omega)]; exact z3 j)
    obtain ⟨M3, g3, g2, hX⟩ := L31_Y hY2
    obtain ⟨v1, v2, v3, v4, v5⟩ := fr g2
    refine ⟨si bt 3 0, tk0, d0, M0, M1, si M1 20 0, M3, 0, b2, z1, rfl, g3, fk, v1, v2, v3, v4, v5, Or.inr ⟨rfl, hX, ?_⟩⟩
    rw [eC, loopF_stop L23_0, bs]
    rfl
theorem X_pos {tk M : Rc} (h : X_ tk M) : ¬ gi M 18 = 0 ∧ ¬ gi M 18 ≤ 0 := by
  obtain ⟨k, k1, k9, -, e, -⟩ := h
  have y : (nI k).toInt = (k : Int) := nI_toInt (by omega)
  rw [e]
  refine ⟨fun z => ?_, fun z => ?_⟩
  · rw [z, i_0] at y; omega
  · rw [i_le, y, i_0] at z; omega
theorem b_bench : BT_bench Rel := by
  intro sg M hR p1
  have hK : RK (sg 15) M := hR.2.2.2.2.2.1.1
  have hW : KWD (sg 15) := hR.2.2.2.2.2.1.2
  unfold fX10_bench fX11_bench
  rcases out_eq hK p1 with ⟨o1, o2⟩ | ⟨o1, N, rfl, h9, hN⟩
  · rw [o1, i10, o2, bs]
    dsimp only
    rw [i00]
    refine ⟨_, _, rfl, rfl, rfl, ?_⟩
    obtain ⟨h1, h2, h3, h4, h5, h6, h7, h8, h9, h10⟩ := hR
    exact ⟨st_eq h1 1, h2, h3, h4, h5, h6, h7, h8, h9, h10⟩
  · rw [o1, i00]
    obtain ⟨bt', tk', d', M0, M1, M2, M3, fl, w1, w2, w3, w4, fk, fx, f8, f10, fa, fb, ⟨rfl, t12, t13, m18, m17, F, D, hD, hC⟩ | ⟨rfl, hX, hC⟩⟩ := isRead_eq (bt := sg 16) (d := sg 3) hK hW h9 hN
    · obtain ⟨d2, M4, s1, s2, s3, s4, s5⟩ := bench_fin hD m18
      obtain ⟨b', k1, k2⟩ := copyB (sg 1) d2
      have hC2 : fX1_isRead (nI N) (sg 16) (sg 15) (sg 3) = some ((1 : Int32), bt', tk', d2) := by
        rw [hC]
        unfold fX1_isRead_J75
        rw [i10, s1, bs, gd_pos (by decide)]
      rw [hC2, bs, w1, bs]
      unfold lt_
      dsimp only
      rw [i10, i10, k1, bs, w2, bs, ← w3, w4, bs, s2]
      refine ⟨_, _, rfl, rfl, k2.1, ?_⟩
      refine rel_tx (st := 0) hR rfl rfl ?_ (Or.inl ⟨rfl, s4⟩) (fun j j1 j2 => ?_) ⟨?_, ?_, ?_, ?_, ?_, ?_⟩ ?_ rfl rfl ?_
      · exact RB_copy k2 (fun _ _ => rfl) (fun _ _ => rfl) s3
      · unfold va_up
        rw [if_neg (by omega), if_neg (by omega), if_neg (by omega), if_neg (by omega), if_neg (by omega), if_neg (by omega)]
      · show ga tk' 0 = ga M4 8
        rw [fk.2.1, s5.2.2.1 8 (by omega), f8]; exact hK.1
      · show (0 : Int32) = gi M4 10
        rw [s5.1 10, f10]
      · show 0 ≤ (0 : Int32).toInt ∧ (0 : Int32).toInt ≤ 900
        decide
      · exact t12
      · show gi tk' 13 = gi M4 17
        rw [t13, s5.1 17, m17]
      · intro k
        show -128 ≤ (ga tk' 0 k).toInt ∧ (ga tk' 0 k).toInt < 128
        rw [fk.2.1]; exact hK.2.2.2.2.2 k
      · exact show KWD tk' from KWD_FK fk hW
      · exact FX_trans (FX_trans fx (FX_FE s5)) (FX_trans (FX_si _ (by omega) _) (FX_si _ (by omega) _))
    · obtain ⟨x1, x2⟩ := X_pos hX
      have hJ : fX11_bench_J50 M3 = some ((-1 : Int32), si (si M3 16 (gi M3 18)) 2 9) := by
        unfold fX11_bench_J50
        rw [if_neg x1]
        unfold fX11_bench_J181 fX11_taken lt_
        dsimp only
        rw [show gi (si M3 16 (gi M3 18)) 18 = gi M3 18 from rfl, if_neg x2]
        rfl
      rw [hC, bs, w1, bs]
      unfold lt_
      dsimp only
      rw [i00, i10, w2, bs, ← w3, w4, bs, hJ]
      refine ⟨_, _, rfl, rfl, rfl, ?_⟩
      obtain ⟨k, q1, q9, q2, q3, q4⟩ := hX
      refine rel_tx (st := 9) hR rfl rfl ?_ ?_ (fun j j1 j2 => ?_) ⟨?_, ?_, ?_, ?_, ?_, ?_⟩ ?_ rfl rfl ?_
      · exact RB_frame (fun k hk => fa _ (by omega)) (fun k hk => fb _ (by omega)) hR.2.1
      · exact RZ_frame (fa _ (by omega)) (fun k _ hk => fa _ (by omega)) rfl hR.2.2.1
      · unfold va_up
        rw [if_neg (by omega), if_neg (by omega), if_neg (by omega), if_neg (by omega), if_neg (by omega), if_neg (by omega)]
      · show ga tk' 0 = ga M3 8
        rw [fk.2.1, f8]; exact hK.1
      · show (0 : Int32) = gi M3 10
        rw [f10]
      · show 0 ≤ (0 : Int32).toInt ∧ (0 : Int32).toInt ≤ 900
        decide
      · exact q2.trans q3.symm
      · exact q4
      · intro k
        show -128 ≤ (ga tk' 0 k).toInt ∧ (ga tk' 0 k).toInt < 128
        rw [fk.2.1]; exact hK.2.2.2.2.2 k
      · exact show KWD tk' from KWD_FK fk hW
      · exact FX_trans fx (FX_trans (FX_si _ (by omega) _) (FX_si _ (by omega) _))
