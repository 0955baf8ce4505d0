/-! ===== (B) a season's text, whole; season ===== -/
noncomputable def KK (b : Rc) (q : Int32 × Int32 × Rc × Rc × Rc) (r20 : Int32 × Rc × Rc × Rc) : Option ((Int32 × Int32 × Rc × Rc × Rc) ⊕ (Int32 × Rc × Rc × Rc)) := if r20.1 = (0 : Int32) then fX6_isRead_J87 q r20.2.1 r20.2.2.1 r20.2.2.2 else (fX6_readRest r20.2.1 r20.2.2.1 r20.2.2.2 b).bind (fun r23 => if r23.1 = (0 : Int32) then fX6_isRead_J87 q r20.2.1 r23.2.1 r23.2.2 else (fX6_keepRest r20.2.1 r23.2.1 r23.2.2).bind (fun r26 => if r26.1 = (0 : Int32) then fX6_isRead_J87 q r20.2.1 r23.2.1 r26.2 else fX6_isRead_J88 q (1 : Int32) r20.2.1 r23.2.1 r26.2))
theorem ref_facts : ∀ i, i < 30 → (i = 28 ∧ nI (rk i) = 25) ∨ (¬ i = 28 ∧ fX6_isStep (nI i) = 0 ∧ (nI (rk i) < 14 ∨ 26 < nI (rk i) ∨ nI (rk i) = 22) ∧ ¬ nI (rk i) = 23 ∧ ¬ nI (rk i) = 24) ∨ (¬ i = 28 ∧ fX6_isStep (nI i) = 1 ∧ ¬ nI (rk i) < 14 ∧ ¬ 26 < nI (rk i) ∧ ¬ nI (rk i) = 22 ∧ ¬ nI (rk i) = 25 ∧ (nI (rk i) = 23 ↔ i = 23) ∧ (nI (rk i) = 24 ↔ i = 27)) := by
  unfold fX6_isStep
  decide +kernel
theorem J42_bad {M : Rc} {r : Int32} (h : r < 14 ∨ 26 < r ∨ r = 22) (a R y : Int32) : fX11_seasonStep_J42 M r a R y = some ((fX11_fails 2 M).1, (fX11_fails 2 M).2) := by
  unfold fX11_seasonStep_J42 lt_
  by_cases c1 : r < 14
  · rw [if_pos c1]
  rw [if_neg c1]
  by_cases c2 : 26 < r
  · rw [if_pos c2]
  rw [if_neg c2]
  rw [if_pos (by
    rcases h with h | h | h
    · exact absurd h c1
    · exact absurd h c2
    · exact h)]
theorem bad_line {t : Nat → Int32} {N e : Nat} {st st' tk z M b : Rc} {F n k : Nat} (h : G t N e tk M) (h1 : 1 ≤ k) (h9 : k ≤ 9) : LN t N e tk M F n ((some ((fX8_fail (nI k) tk).1, st', (fX8_fail (nI k) tk).2, z)).bind (KK b ((1 : Int32), nI n, st, tk, z))) (some ((fX11_fails (nI k) M).1, (fX11_fails (nI k) M).2)) := by
  obtain ⟨tk', M', q1, q2, q3, q4, q5⟩ := fail_G h h1 h9
  rw [q1, q2]
  refine ⟨st', tk', z, M', q3, FS_FP q4, Or.inr ⟨?_, Or.inl ⟨rfl, q5⟩⟩⟩
  rw [← nI_1]
  rfl
/-- any line -/
theorem season_step {t : Nat → Int32} {N e : Nat} {st tk z M b : Rc} {F n c dp : Nat} {s : Nat → Nat} (h : G t N e tk M) (hI : SI z st M F n c dp s) (hF : F ≤ 8) (h8 : gi b 8 = nI F) (hN : NM b M F 0) (h0 : ga M 0 0 = nI F) (hE : ¬ gi tk 6 = 0) : LN t N e tk M F n (fX6_isRead_L23 b ((1 : Int32), nI n, st, tk, z)) (fX11_seasonStep M) := by
  obtain ⟨⟨a5, a6, a63, a23, a4, a22, l1, l2, l3⟩, -⟩ := id hI
  have hn60 : n ≤ 60 := by omega
  obtain ⟨-, -, hk, hw⟩ := G_tok h
  have eE : fX8_isAtEnd tk = 0 := by
    unfold fX8_isAtEnd; rw [if_neg hE]
  have c63 : (4163 : Int32).toNatClampNeg = 4163 := rfl
  have eR : (4830 : Int32) + (6 : Int32) * nI n = nI (4830 + 6 * n) := by rw [show (6 : Int32) = nI 6 from rfl, show (4830 : Int32) = nI 4830 from rfl, nI_mul, nI_add]
  have eS : fX11_seasonStep M = if rki (gi tk 8) = (23 : Int32) then fX11_seasonStep_J42 M (rki (gi tk 8)) (nI n) (nI (4830 + 6 * n)) 1 else if rki (gi tk 8) = (24 : Int32) then fX11_seasonStep_J42 M (rki (gi tk 8)) (nI n) (nI (4830 + 6 * n)) 1 else fX11_seasonStep_J42 M (rki (gi tk 8)) (nI n) (nI (4830 + 6 * n)) 0 := by
    unfold fX11_seasonStep lt_
    rw [hw, bs, c63, a63]
    dsimp only
    rw [eR]
    rfl
  have eC : fX6_isRead_L23 b ((1 : Int32), nI n, st, tk, z) = if gi tk 8 = (28 : Int32) then (fX6_readEnd st tk z).bind (fun r29 => fX6_isRead_J88 ((1 : Int32), nI n, st, tk, z) r29.1 r29.2.1 r29.2.2.1 r29.2.2.2) else (fX6_readStep st tk z).bind (KK b ((1 : Int32), nI n, st, tk, z)) := by
    unfold fX6_isRead_L23
    dsimp only
    rw [if_neg (show ¬ (60 : Int32) < nI n from nI_nlt (a := 60) hn60 (by decide)), i10, if_pos eE]
    rfl
  rw [eC, eS]
  rcases hk with hm | ⟨i, hi, hx⟩
  · rw [hm, rki_m1, if_neg (by decide), if_neg (by decide), if_neg (by decide), J42_bad (Or.inl (by decide))]
    have e1 : fX6_readStep st tk z = some ((fX8_fail (nI 2) tk).1, st, (fX8_fail (nI 2) tk).2, z) := by
      unfold fX6_readStep lt_
      rw [hm]
      rfl
    rw [e1]
    exact bad_line h (k := 2) (by decide) (by decide)
  · rw [hx, rki_n hi]
    rcases ref_facts i hi with ⟨rfl, f2⟩ | ⟨f1, f2, f3, f4, f5⟩ | ⟨f1, f2, f3, f4, f5, f6, f7, f8⟩
    · rw [f2, if_pos (show nI 28 = 28 from rfl), if_neg (by decide), if_neg (by decide)]
      exact end_line h hI
    · rw [if_neg (show ¬ nI i = 28 from fun q => f1 ((nI_eq (by omega) (by omega)).1 q)), if_neg f4, if_neg f5, J42_bad f3]
      have e1 : fX6_readStep st tk z = some ((fX8_fail (nI 2) tk).1, st, (fX8_fail (nI 2) tk).2, z) := by
        unfold fX6_readStep lt_
        rw [hx]
        dsimp only
        rw [f2]
        rfl
      rw [e1]
      exact bad_line h (k := 2) (by decide) (by decide)
    · have go42 : ∀ y, fX11_seasonStep_J42 M (nI (rk i)) (nI n) (nI (4830 + 6 * n)) y = fX11_seasonStep_J81 M (nI (rk i)) (nI n) (nI (4830 + 6 * n)) y := fun y => by
        unfold fX11_seasonStep_J42
        rw [if_neg f3, if_neg f4, if_neg f5, if_neg f6]
      have n30 : (nI 30).toInt = 30 := nI_toInt (by omega)
      rw [if_neg (show ¬ nI i = 28 from fun q => f1 ((nI_eq (by omega) (by omega)).1 q)), go42, go42]
      by_cases hc : c < 30
      · have go81 : ∀ y, fX11_seasonStep_J81 M (nI (rk i)) (nI n) (nI (4830 + 6 * n)) y = fX11_seasonStep_J103 M (nI (rk i)) (nI n) (nI (4830 + 6 * n)) y := fun y => by
          unfold fX11_seasonStep_J81
          rw [if_neg f6, if_neg (show ¬ gi M 23 = 30 by rw [a23]; exact fun q => absurd ((nI_eq (b := 30) (by omega) (by omega)).1 q) (by omega))]
        have go123 : ∀ y, fX11_seasonStep_J123 M (nI (rk i)) (nI n) (nI (4830 + 6 * n)) y = fX11_seasonStep_J139 M (nI (rk i)) (nI n) (nI (4830 + 6 * n)) y 1 (gi M 23) := fun y => by
          unfold fX11_seasonStep_J123
          rw [if_neg f6]
        have go : fX6_readStep st tk z = if nI i = (23 : Int32) then fX6_readStep_J79 tk z (nI i) (si st 5 (nI n)) else if nI i = (27 : Int32) then fX6_readStep_J79 tk z (nI i) (si st 5 (nI n)) else fX6_readStep_J120 tk z (nI i) (si st 5 (nI n)) := by
          unfold fX6_readStep lt_
          rw [hx]
          dsimp only
          rw [f2, i10, a6, if_neg (show ¬ (30 : Int32) ≤ nI c from nI_ge (b := 30) hc (by decide)), has_room a5 (by omega), i10, a5]
        rw [go81, go81, go]
        by_cases c2 : i = 23 ∨ i = 27
        · have ec : ∀ α (A B : α), (if nI i = (23 : Int32) then A else if nI i = (27 : Int32) then A else B) = A := fun α A B => by
            rcases c2 with z | z
            · rw [z, if_pos (show nI 23 = 23 from rfl)]
            · rw [z, if_neg (by decide), if_pos (show nI 27 = 27 from rfl)]
          have er : ∀ α (A B : α), (if nI (rk i) = (23 : Int32) then A else if nI (rk i) = (24 : Int32) then A else B) = A := fun α A B => by
            rcases c2 with z | z
            · rw [if_pos (f7.2 z)]
            · rw [if_neg (fun q => absurd (f7.1 q) (by omega)), if_pos (f8.2 z)]
          rw [ec, er]
          unfold fX6_readStep_J79 fX11_seasonStep_J103 lt_
          rw [i10, show gi (si st 5 (nI n)) 4 = gi st 4 from rfl, a4, a22]
          by_cases hd : dp < 3
          · rw [if_pos (show nI dp < 3 from nI_lt (b := 3) hd (by decide)), gd_pos (inbn hd (by decide)), if_neg (show ¬ nI dp = 3 from fun q => absurd ((nI_eq (b := 3) (by omega) (by omega)).1 q) (by omega)), go123]
            refine step_line h hI hc hi f2 hF h8 hN h0 ?_ (Or.inr ⟨rfl, c2, hd, ?_, fun k hk => ?_, ?_⟩)
            · rfl
            · show gi st 4 + 1 = _
              rw [a4, nI_1]
            · show upd (ga st 3) (nI dp).toNatClampNeg _ k = _
              rw [nI_clamp (by omega), upd_ne _ _ (by omega)]
            · show upd (ga st 3) (nI dp).toNatClampNeg (nI n) dp = _
              rw [nI_clamp (by omega), upd_eq]
          · have ed : dp = 3 := by omega
            rw [ed, if_neg (show ¬ nI 3 < 3 by decide), if_pos (show nI 3 = 3 from rfl)]
            exact bad_line h (k := 7) (by decide) (by decide)
        · have e23 : ¬ nI i = 23 := fun q => c2 (Or.inl ((nI_eq (b := 23) (by omega) (by omega)).1 q))
          have e27 : ¬ nI i = 27 := fun q => c2 (Or.inr ((nI_eq (b := 27) (by omega) (by omega)).1 q))
          rw [if_neg e23, if_neg e27, if_neg (fun q => c2 (Or.inl (f7.1 q))), if_neg (fun q => c2 (Or.inr (f8.1 q)))]
          unfold fX11_seasonStep_J103
          rw [i00, go123]
          exact step_line h hI hc hi f2 hF h8 hN h0 rfl (Or.inl ⟨rfl, fun q => c2 (Or.inl q), fun q => c2 (Or.inr q), a4, fun k hk => rfl⟩)
      · have ec : c = 30 := by omega
        have b81 : ∀ y, fX11_seasonStep_J81 M (nI (rk i)) (nI n) (nI (4830 + 6 * n)) y = some ((fX11_fails (nI 6) M).1, (fX11_fails (nI 6) M).2) := fun y => by
          unfold fX11_seasonStep_J81 lt_
          rw [if_neg f6, a23, ec, if_pos (show nI 30 = 30 from rfl)]
          rfl
        have e1 : fX6_readStep st tk z = some ((fX8_fail (nI 6) tk).1, st, (fX8_fail (nI 6) tk).2, z) := by
          unfold fX6_readStep lt_
          rw [hx]
          dsimp only
          rw [f2, i10, a6, ec, if_pos (show (30 : Int32) ≤ nI 30 by decide)]
          rfl
        rw [e1, b81, b81, ite_self, ite_self]
        exact bad_line h (k := 6) (by decide) (by decide)
def RDS (t : Nat → Int32) (N F : Nat) (tk M : Rc) (c : Option (Int32 × Rc × Rc × Rc)) (m : Option Rc) : Prop := ∃ (st' tk' z' M' : Rc), FK tk tk' ∧ FS M M' ∧ m = some M' ∧ ((c = some ((1 : Int32), st', tk', z') ∧ (∃ e', G t N e' tk' M') ∧ ∃ n' c' dp' s', SI z' st' M' F n' c' dp' s') ∨ (c = some ((0 : Int32), st', tk', z') ∧ X_ tk' M'))
theorem L38_0 (M : Rc) : fX11_season_L38 ((0 : Int32), M) = some (.inr M) := rfl
theorem S23_0 {p : Int32} {b st tk z : Rc} : fX6_isRead_L23 b ((0 : Int32), p, st, tk, z) = some (.inr ((0 : Int32), st, tk, z)) := by
  unfold fX6_isRead_L23
  dsimp only
  split
  · rfl
  · rfl
theorem L38_Y {tk M : Rc} (hY : Y_ tk M) : ∃ M2, loopF fX11_season_L38 ((1 : Int32), M) = some M2 ∧ FP M M2 ∧ X_ tk M2 := by
  obtain ⟨M2, s1, fp2, hX⟩ := fails_Y hY 2
  have m2 : fX11_season_L38 ((1 : Int32), M) = some (.inl ((0 : Int32), M2)) := by
    unfold fX11_season_L38 fX11_seasonStep
    dsimp only
    rw [i10, hY.2.2.1, i10, inWords_bad hY.2.2.1, bs]
    unfold lt_
    dsimp only
    rw [if_neg (by decide), if_neg (by decide), J42_bad (Or.inl (by decide)), s1]
    rfl
  exact ⟨M2, loopF_step m2 (loopF_stop (L38_0 M2)), fp2, hX⟩
theorem season_end {t : Nat → Int32} {N e : Nat} {b st tk z M : Rc} {F n c dp : Nat} {s : Nat → Nat} (h : G t N e tk M) (hI : SI z st M F n c dp s) (p : Int32) (hE : gi M 12 = 0) : RDS t N F tk M (loopF (fX6_isRead_L23 b) ((1 : Int32), p, st, tk, z)) (loopF fX11_season_L38 ((1 : Int32), M)) := by
  have c : fX6_isRead_L23 b ((1 : Int32), p, st, tk, z) = some (.inr ((1 : Int32), st, tk, z)) := by
    unfold fX6_isRead_L23
    dsimp only
    have eE : fX8_isAtEnd tk = 1 := by
      unfold fX8_isAtEnd; rw [if_pos ((G_end h).2 hE)]
    rw [eE, i10, i10]
    split <;> rfl
  have m : fX11_season_L38 ((1 : Int32), M) = some (.inr M) := by
    unfold fX11_season_L38
    dsimp only
    rw [i10, if_pos hE]
  exact ⟨st, tk, z, M, FK_refl _, FS_refl _, loopF_stop m, Or.inl ⟨loopF_stop c, ⟨e, h⟩, _, _, _, _, hI⟩⟩
theorem season_go {t : Nat → Int32} {N F : Nat} {b : Rc} (hF : F ≤ 8) (h8 : gi b 8 = nI F) : ∀ (m e n : Nat) (st tk z M : Rc) (c dp : Nat) (s : Nat → Nat), N + 1 - e ≤ m → G t N e tk M → SI z st M F n c dp s → NM b M F 0 → ga M 0 0 = nI F → RDS t N F tk M (loopF (fX6_isRead_L23 b) ((1 : Int32), nI n, st, tk, z)) (loopF fX11_season_L38 ((1 : Int32), M)) := by
  intro m
  induction m with
  | zero =>
    intro e n st tk z M c dp s hm h
    have := (G_e h).2.2
    omega
  | succ m ih =>
    intro e n st tk z M c dp s hm h hI hN h0
    by_cases hE : gi M 12 = 0
    · exact season_end h hI _ hE
    · have heN := (G_e h).2.2
      have m0 : ∀ {x : Int32} {M' : Rc}, fX11_seasonStep M = some (x, M') → fX11_season_L38 ((1 : Int32), M) = some (.inl (x, M')) := fun {x M'} z => by
        unfold fX11_season_L38
        dsimp only
        rw [i10, if_neg hE, z]
        rfl
      obtain ⟨st', tk', z', M', fk, fs, ⟨c1, m1, ⟨e', he', hG⟩, c', dp', s', hI'⟩ | ⟨c1, ⟨m1, hX⟩ | ⟨m1, hY⟩⟩⟩ := season_step h hI hF h8 hN h0 (fun z => hE ((G_end h).1 z))
      · have hN' : NM b M' F 0 := fun f hf => by
          obtain ⟨u, u1, u2, u3⟩ := hN f hf
          exact ⟨u, u1, u2, (fs.2.2.2.2.2 _ (by omega)).trans u3⟩
        have h0' : ga M' 0 0 = nI F := (fs.2.2.2.2.1 0 (by omega)).trans h0
        have q : RDS t N F tk' M' (loopF (fX6_isRead_L23 b) ((1 : Int32), nI (n + 1), st', tk', z')) (loopF fX11_season_L38 ((1 : Int32), M')) := by
          rcases he' with w | w
          · exact season_end hG hI' _ w
          · exact ih e' (n + 1) st' tk' z' M' c' dp' s' (by omega) hG hI' hN' h0'
        obtain ⟨st2, tk2, z2, M2, fk2, fs2, mm, cc⟩ := q
        refine ⟨st2, tk2, z2, M2, FK_trans fk fk2, FS_trans fs fs2, loopF_step (m0 m1) mm, ?_⟩
        rcases cc with ⟨cc, r⟩ | ⟨cc, r⟩
        · exact Or.inl ⟨loopF_step c1 cc, r⟩
        · exact Or.inr ⟨loopF_step c1 cc, r⟩
      · exact ⟨st', tk', z', M', fk, fs, loopF_step (m0 m1) (loopF_stop (L38_0 M')), Or.inr ⟨loopF_step c1 (loopF_stop S23_0), hX⟩⟩
      · obtain ⟨M2, s1, fp2, hX⟩ := L38_Y hY
        exact ⟨st', tk', z', M2, fk, FS_trans fs (FS_FP fp2), loopF_step (m0 m1) s1, Or.inr ⟨loopF_step c1 (loopF_stop S23_0), hX⟩⟩
theorem FX_FS {M M' : Rc} (h : FS M M') : FX M M' := by
  obtain ⟨h1, h2, h3, h4, h5, h6⟩ := h
  have g : ∀ j, 24 ≤ j → gi M' j = gi M j := fun j hj => h1 j (Or.inr hj)
  exact ⟨g _ (by omega), g _ (by omega), g _ (by omega), g _ (by omega), g _ (by omega), h2 _, h2 _, h3 _ (by omega) (by omega), h3 _ (by omega) (by omega), h3 _ (by omega) (by omega), h3 _ (by omega) (by omega), h4 _ (by omega), fun k _ hk => h5 k hk, fun k _ hk => h6 k hk⟩
/-- a season's text is read on both sides -/
theorem seasonRead_eq {st tk z b M : Rc} {F : Nat} (hK : RK tk M) (hW : KWD tk) {N : Nat} (h3 : N ≤ 300) (hN : nI N ≤ gi M 10) (hF : F ≤ 8) (h8 : gi b 8 = nI F) (hNM : NM b M F 0) (h0 : ga M 0 0 = nI F) : ∃ (st' tk' z' M0 M3 : Rc) (fl : Int32), fX11_begins (nI N) 300 M = some ((1 : Int32), M0) ∧ loopF fX11_season_L38 ((1 : Int32), si (si (sa M0 0 (upd (ga M0 0) 4163 0)) 22 0) 23 0) = some M3 ∧ FK tk tk' ∧ FX M M3 ∧ ga M3 8 = ga M 8 ∧ gi M3 10 = 0 ∧ (∀ k, k < 4160 → ga M3 0 k = ga M 0 k) ∧ (∀ k, k < 32 → gb M3 1 k = gb M 1 k) ∧ fX6_isRead (nI N) st tk z b = fX6_isRead_J117 fl st' tk' z' ∧ ((fl = 1 ∧ (∃ e', G (ga tk 0) N e' tk' M3) ∧ ∃ n' c' dp' s', SI z' st' M3 F n' c' dp' s') ∨ (fl = 0 ∧ X_ tk' M3)) := by
  obtain ⟨tk0, M0, x, b1, b2, fb, fk, f10, f19, hh⟩ := begin_eq hK hW hN (by omega)
  have b3 : fX11_begins (nI N) 300 M = some ((1 : Int32), M0) := (begins_300 h3 M).trans b2
  have fs0 : FS M0 (si (si (sa M0 0 (upd (ga M0 0) 4163 0)) 22 0) 23 0) := FS_trans (FS_s0 M0 _ (fun k hk => upd_ne _ _ (by omega))) (FS_trans (FS_si _ (by omega) _) (FS_si _ (by omega) _))
  have y63 : ga (si (si (sa M0 0 (upd (ga M0 0) 4163 0)) 22 0) 23 0) 0 4163 = 0 := upd_eq (ga M0 0) 4163 0
  have y22 : gi (si (si (sa M0 0 (upd (ga M0 0) 4163 0)) 22 0) 23 0) 22 = 0 := rfl
  have y23 : gi (si (si (sa M0 0 (upd (ga M0 0) 4163 0)) 22 0) 23 0) 23 = 0 := rfl
  have y9 : ga (si (si (sa M0 0 (upd (ga M0 0) 4163 0)) 22 0) 23 0) 9 = ga M0 9 := rfl
  have yj : ∀ j, j ≤ 18 → gi (si (si (sa M0 0 (upd (ga M0 0) 4163 0)) 22 0) 23 0) j = gi M0 j := fun j hj => by
    rw [gi_si, if_neg (by omega), gi_si, if_neg (by omega)]; rfl
  generalize hM2 : si (si (sa M0 0 (upd (ga M0 0) 4163 0)) 22 0) 23 0 = M2 at *
  have eC : fX6_isRead (nI N) st tk z b = (loopF (fX6_isRead_L23 b) (x, (0 : Int32), si st 4 0, tk0, si (si (si z 5 0) 6 0) 7 0)).bind (fun o23 => fX6_isRead_J117 o23.1 o23.2.1 o23.2.2.1 o23.2.2.2) := by
    unfold fX6_isRead fX5_empty lt_
    dsimp only
    rw [b1, bs]
  have fr : ∀ {M3 : Rc}, FS M2 M3 → FX M M3 ∧ ga M3 8 = ga M 8 ∧ gi M3 10 = 0 ∧ (∀ k, k < 4160 → ga M3 0 k = ga M 0 k) ∧ (∀ k, k < 32 → gb M3 1 k = gb M 1 k) := fun {M3} h => by
    have q := FS_trans fs0 h
    refine ⟨FX_trans (FX_FB fb) (FX_FS q), ?_, ?_, fun k hk => ?_, fun k hk => ?_⟩
    · rw [q.2.2.1 8 (by omega) (by omega), fb.2.2.1 8 (by omega)]
    · rw [q.1 10 (by omega), f10]
    · rw [q.2.2.2.2.1 k hk, fb.2.2.1 0 (by omega)]
    · rw [q.2.2.2.2.2 k hk, fb.2.2.2 1]
  have hNM2 : NM b M2 F 0 := fun f hf => by
    obtain ⟨u, u1, u2, u3⟩ := hNM f hf
    exact ⟨u, u1, u2, by rw [fs0.2.2.2.2.2 _ (by omega), fb.2.2.2 1]; exact u3⟩
  have h02 : ga M2 0 0 = nI F := by rw [fs0.2.2.2.2.1 0 (by omega), fb.2.2.1 0 (by omega)]; exact h0
  rcases hh with ⟨rfl, e, he, hG⟩ | ⟨rfl, hY⟩
  · have hG2 : G (ga tk 0) N e tk0 M2 := G_M hG (fun j j1 j2 => yj j j2) y9
    have hI0 : SI (si (si (si z 5 0) 6 0) 7 0) (si st 4 0) M2 F 0 0 0 (fun _ => 0) := SI_0 rfl rfl y63 y23 rfl y22
    obtain ⟨st', tk', z', M3, g1, g2, g3, g4⟩ := season_go (t := ga tk 0) (N := N) hF h8 (N + 1 - e) e 0 (si st 4 0) tk0 (si (si (si z 5 0) 6 0) 7 0) M2 0 0 (fun _ => 0) (Nat.le_refl _) hG2 hI0 hNM2 h02
    obtain ⟨v1, v2, v3, v4, v5⟩ := fr g2
    rcases g4 with ⟨c1, hE, hI⟩ | ⟨c1, hX⟩
    · have c1' : loopF (fX6_isRead_L23 b) ((1 : Int32), (0 : Int32), si st 4 0, tk0, si (si (si z 5 0) 6 0) 7 0) = some ((1 : Int32), st', tk', z') := c1
      exact ⟨st', tk', z', M0, M3, 1, b3, by rw [hM2]; exact g3, FK_trans fk g1, v1, v2, v3, v4, v5, by rw [eC, c1', bs], Or.inl ⟨rfl, hE, hI⟩⟩
    · have c1' : loopF (fX6_isRead_L23 b) ((1 : Int32), (0 : Int32), si st 4 0, tk0, si (si (si z 5 0) 6 0) 7 0) = some ((0 : Int32), st', tk', z') := c1
      exact ⟨st', tk', z', M0, M3, 0, b3, by rw [hM2]; exact g3, FK_trans fk g1, v1, v2, v3, v4, v5, by rw [eC, c1', bs], Or.inr ⟨rfl, hX⟩⟩
  · have hY2 : Y_ tk0 M2 := Y_M hY (fun j j1 j2 => yj j j2)
    obtain ⟨M3, g3, g2, hX⟩ := L38_Y hY2
    obtain ⟨v1, v2, v3, v4, v5⟩ := fr (FS_FP g2)
    exact ⟨si st 4 0, tk0, si (si (si z 5 0) 6 0) 7 0, M0, M3, 0, b3, by rw [hM2]; exact g3, fk, v1, v2, v3, v4, v5, by rw [eC, loopF_stop S23_0, bs], Or.inr ⟨rfl, hX⟩⟩
theorem put_steps (M : Rc) : ∃ g, loopF fX11_season_L102 ((670 : Int32), M) = some (sa M 0 g) ∧ ∀ k, g k = if 670 ≤ k ∧ k < 1030 then ga M 0 (4160 + k) else ga M 0 k := by
  obtain ⟨r, l1, g, rfl, hg⟩ := loop_one (b := fX11_season_L102) (fun i s => 670 ≤ i ∧ ∃ g, s = (nI i, sa M 0 g) ∧ ∀ k, g k = if 670 ≤ k ∧ k < i then ga M 0 (4160 + k) else ga M 0 k) (fun r => ∃ g, r = sa M 0 g ∧ ∀ k, g k = if 670 ≤ k ∧ k < 1030 then ga M 0 (4160 + k) else ga M 0 k) 1030 (fun i s hi hs => by
      left
      obtain ⟨h6, g, rfl, hg⟩ := hs
      refine ⟨_, ?_, by omega, upd g i (ga M 0 (4160 + i)), rfl, fun k => ?_⟩
      · unfold fX11_season_L102 lt_
        dsimp only
        rw [if_neg (show ¬ (1030 : Int32) ≤ nI i from nI_ge (b := 1030) hi (by decide)), show (4160 : Int32) + nI i = nI (4160 + i) from nI_plus (by omega) rfl, gd_pos (inbn (by omega) (by decide)), gd_pos (inbn (by omega) (by decide)), nI_clamp (by omega), nI_clamp (by omega), ga_sa0, hg (4160 + i), if_neg (by omega), sa_sa, nI_succ i]
      · by_cases c : k = i
        · rw [c, upd_eq, if_pos (by omega)]
        · rw [upd_ne _ _ c, hg k]
          by_cases c2 : 670 ≤ k ∧ k < i
          · rw [if_pos c2, if_pos (by omega)]
          · rw [if_neg c2, if_neg (by omega)]) (fun s hs => by
      obtain ⟨h6, g, rfl, hg⟩ := hs
      refine ⟨_, ?_, g, rfl, hg⟩
      unfold fX11_season_L102
      dsimp only
      rw [if_pos (show (1030 : Int32) ≤ nI 1030 by decide)]) 360 670 ((670 : Int32), M) (by omega) ⟨by omega, ga M 0, by rw [sa_id]; rfl, fun k => by rw [if_neg (by omega)]⟩
  exact ⟨g, l1, hg⟩
/-- a text that has failed -/
theorem J57_X {tk M : Rc} (hX : X_ tk M) : fX11_season_J77 M = some ((-1 : Int32), si (si M 16 (gi M 18)) 2 9) ∧ fX11_season_J57 M = some ((-1 : Int32), si (si M 16 (gi M 18)) 2 9) := by
  obtain ⟨x1, x2⟩ := X_pos hX
  have h77 : fX11_season_J77 M = some ((-1 : Int32), si (si M 16 (gi M 18)) 2 9) := by
    unfold fX11_season_J77
    rw [if_neg x1]
    unfold fX11_taken lt_
    dsimp only
    rw [show gi (si M 16 (gi M 18)) 18 = gi M 18 from rfl, if_neg x2]
    rfl
  refine ⟨h77, ?_⟩
  unfold fX11_season_J57
  rw [if_neg x1, h77]
theorem RB_season {b M M' : Rc} {o n : Nat} (h1 : ∀ k, ¬ k = 3 → k < 670 → ga M' 0 (o + k) = ga M 0 (o + k)) (h2 : ∀ k, k < 8 → gb M' 1 (n + k) = gb M 1 (n + k)) (h : RB b M o n) : RB b M' o n := by
  obtain ⟨hB, a1, a2, a3, a4, a5, a6, a7, a8⟩ := h
  have hF : cF b ≤ 8 := hB.1.2
  have hD : cD b ≤ 60 := hB.2.1.2
  refine ⟨hB, ?_, ?_, ?_, ?_, ?_, ?_, ?_, ?_⟩
  · rw [← a1]; exact h1 0 (by omega) (by omega)
  · rw [← a2]; exact h1 1 (by omega) (by omega)
  · rw [← a3]; exact h1 2 (by omega) (by omega)
  · intro f hf
    obtain ⟨b0, b1, b2, b3, b4, b5⟩ := a4 f hf
    have e0 := h1 (10 + 6 * f) (by omega) (by omega)
    have e1 := h1 (10 + 6 * f + 1) (by omega) (by omega)
    have e2 := h1 (10 + 6 * f + 2) (by omega) (by omega)
    have e3 := h1 (10 + 6 * f + 3) (by omega) (by omega)
    have e4 := h1 (10 + 6 * f + 4) (by omega) (by omega)
    have e5 := h1 (10 + 6 * f + 5) (by omega) (by omega)
    simp only [← Nat.add_assoc] at e0 e1 e2 e3 e4 e5
    exact ⟨by rw [e0, b0], by rw [e1, b1], by rw [e2, b2], by rw [e3, b3], by rw [e4, b4], by rw [e5, b5]⟩
  · intro i hi
    rw [← a5 i hi, Nat.add_assoc]
    exact h1 (58 + i) (by omega) (by omega)
  · intro d hd
    rw [← a6 d hd, Nat.add_assoc]
    exact h1 (122 + d) (by omega) (by omega)
  · intro f d hf hd
    rw [← a7 f d hf hd]
    have := h1 (182 + 60 * f + d) (by omega) (by omega)
    simp only [← Nat.add_assoc] at this
    exact this
  · intro f hf
    obtain ⟨w, w1, w2, w3⟩ := a8 f hf
    exact ⟨w, w1, w2, by rw [h2 f (by omega), w3]⟩
theorem b_season : BT_season Rel := by
  intro sg M hR p1
  have hK : RK (sg 15) M := hR.2.2.2.2.2.1.1
  have hW : KWD (sg 15) := hR.2.2.2.2.2.1.2
  have hB : RB (sg 1) M 0 0 := hR.2.1
  have ref1 : ∀ {α : Type} {r : α}, Rel (va_up (va_up (va_up (va_up (va_up sg 0 (si (sg 0) 16 1)) 2 (sg 2)) 4 (sg 4)) 15 (sg 15)) 17 (sg 17)) (si M 2 1) := fun {α r} => by
    rw [va_up_id _ 2 (by rfl), va_up_id _ 4 (by rfl), va_up_id _ 15 (by rfl), va_up_id _ 17 (by rfl)]
    exact rel_st hR 1
  unfold fX10_season fX11_season
  rcases out3_eq hK p1 with ⟨o1, o2⟩ | ⟨o1, o3, o2⟩ | ⟨o1, o3, N, rfl, h3, hN⟩
  · rw [o1, i10, o2, bs]
    dsimp only
    rw [i00]
    exact ⟨_, _, rfl, rfl, rfl, ref1 (r := ())⟩
  · rw [o1, i00, if_neg o3, o2, bs]
    dsimp only
    rw [i00]
    exact ⟨_, _, rfl, rfl, rfl, ref1 (r := ())⟩
  · rw [o1, i00, if_pos o3]
    have hF : cF (sg 1) ≤ 8 := hB.1.1.2
    have h8 : gi (sg 1) 8 = nI (cF (sg 1)) := hB.1.1.1
    have h0 : ga M 0 0 = nI (cF (sg 1)) := hB.2.1.trans h8
    have hNM : NM (sg 1) M (cF (sg 1)) 0 := fun f hf => by
      obtain ⟨w, w1, w2, w3⟩ := hB.2.2.2.2.2.2.2.2 f hf
      exact ⟨w, w1, w2, w3⟩
    obtain ⟨st', tk', z', M0, M3, fl, w1, w2, fk, fx, f8, f10, fa, fb, eC, hh⟩ := seasonRead_eq (st := sg 17) (z := sg 4) hK hW h3 hN hF h8 hNM h0
    have c63 : (4163 : Int32).toNatClampNeg = 4163 := rfl
    have cn3 : (3 : Int32).toNatClampNeg = 3 := rfl
    have hh2 : (fl = 1 ∧ (∃ e', G (ga (sg 15) 0) N e' tk' M3) ∧ ∃ n' c' s', SI z' st' M3 (cF (sg 1)) n' c' 0 s') ∨ (∃ (st'' tk'' z'' M4 : Rc), fX6_isRead (nI N) (sg 17) (sg 15) (sg 4) (sg 1) = some ((0 : Int32), st'', tk'', z'') ∧ fX11_season_J57 M3 = some ((-1 : Int32), si (si M4 16 (gi M4 18)) 2 9) ∧ FK (sg 15) tk'' ∧ FX M M4 ∧ ga M4 8 = ga M 8 ∧ gi M4 10 = 0 ∧ (∀ k, k < 4160 → ga M4 0 k = ga M 0 k) ∧ (∀ k, k < 32 → gb M4 1 k = gb M 1 k) ∧ X_ tk'' M4) := by
      rcases hh with ⟨rfl, ⟨e', hG⟩, n', c', dp', s', hI⟩ | ⟨rfl, hX⟩
      · obtain ⟨⟨a5, a6, a63, a23, a4, a22, l1, l2, l3⟩, -⟩ := id hI
        obtain ⟨-, -, t12, t13, m18, m17⟩ := id hG
        cases dp' with
        | zero => exact Or.inl ⟨rfl, ⟨e', hG⟩, n', c', s', hI⟩
        | succ d =>
          obtain ⟨tk2, M4, q1, q2, q3, q4, q5⟩ := fail_G hG (k := 2) (by decide) (by decide)
          have q1 : fX8_fail 2 tk' = ((0 : Int32), tk2) := q1
          have q2 : fX11_fails 2 M3 = ((0 : Int32), M4) := q2
          have eC2 : fX6_isRead (nI N) (sg 17) (sg 15) (sg 4) (sg 1) = some ((0 : Int32), st', tk2, si z' 7 1) := by
            rw [eC]
            unfold fX6_isRead_J117 lt_
            dsimp only
            rw [i10, a4, if_neg (nI_ne0 (by omega) (by omega)), q1]
            rfl
          have eM : fX11_season_J57 M3 = some ((-1 : Int32), si (si M4 16 (gi M4 18)) 2 9) := by
            unfold fX11_season_J57 lt_
            rw [m18, i00, a22, if_neg (nI_nle (by omega) (by omega)), q2]
            exact (J57_X q5).1
          exact Or.inr ⟨st', tk2, si z' 7 1, M4, eC2, eM, FK_trans fk q3, FX_trans fx (FX_FP q4), (q4.2.2.1 8 (by omega)).trans f8, (q4.1 10 (by omega) (by omega) (by omega) (by omega)).trans f10, fun k hk => (q4.2.2.2.2.1 k hk).trans (fa k hk), fun k hk => (q4.2.2.2.2.2 k hk).trans (fb k hk), q5⟩
      · have eC2 : fX6_isRead (nI N) (sg 17) (sg 15) (sg 4) (sg 1) = some ((0 : Int32), st', tk', si z' 7 1) := by
          rw [eC]; rfl
        exact Or.inr ⟨st', tk', si z' 7 1, M3, eC2, (J57_X hX).2, fk, fx, f8, f10, fa, fb, hX⟩
    rcases hh2 with ⟨rfl, ⟨e', hG⟩, n', c', s', hI⟩ | ⟨st'', tk'', z'', M4, e1, e2, fk, fx, f8, f10, fa, fb, hX⟩
    · obtain ⟨⟨a5, a6, a63, a23, a4, a22, l1, l2, l3⟩, -⟩ := id hI
      obtain ⟨-, -, t12, t13, m18, m17⟩ := id hG
      have hI2 : SI (si z' 7 1) st' M3 (cF (sg 1)) n' c' 0 s' := hI
      have hRZ : RZ (si z' 7 1) (sg 1) M3 4160 := SI_RZ hI2 rfl rfl
      obtain ⟨z2, k1, k2⟩ := copyZ (sg 2) (si z' 7 1) rfl
      have eC2 : fX6_isRead (nI N) (sg 17) (sg 15) (sg 4) (sg 1) = some ((1 : Int32), st', tk', si z' 7 1) := by
        rw [eC]
        unfold fX6_isRead_J117 lt_
        dsimp only
        rw [i10, a4, show nI 0 = 0 from rfl, i00]
      obtain ⟨g, p1, p2⟩ := put_steps (sa M3 0 (upd (ga M3 0) 3 (ga M3 0 4163)))
      have eM : fX11_season_J57 M3 = some (nI c', si (si (sa M3 0 g) 16 0) 2 0) := by
        unfold fX11_season_J57
        rw [m18, i00, a22, if_pos (show nI 0 ≤ 0 by decide)]
        unfold fX11_season_J77 lt_
        rw [m18, i00, c63, cn3]
        dsimp only
        rw [p1, bs, sa_sa]
        unfold fX11_taken lt_
        dsimp only
        rw [show gi (sa M3 0 g) 18 = gi M3 18 from rfl, m18, show gi (si (sa M3 0 g) 16 0) 18 = gi M3 18 from rfl, m18, if_pos (by decide), show gi (sa M3 0 g) 23 = gi M3 23 from rfl, a23]
        rfl
      rw [eC2, bs, w1, bs]
      unfold lt_
      dsimp only
      rw [i10, i10, k1, bs, c63, w2, bs, eM]
      have g3 : g 3 = ga M3 0 4163 := by rw [p2, if_neg (by omega), ga_sa0, upd_eq]
      have gk : ∀ k, 670 ≤ k → k < 1030 → g k = ga M3 0 (4160 + k) := fun k q1 q2 => by rw [p2, if_pos ⟨q1, q2⟩, ga_sa0, upd_ne _ _ (by omega)]
      have go : ∀ k, ¬ k = 3 → ¬ (670 ≤ k ∧ k < 1030) → g k = ga M3 0 k := fun k q1 q2 => by rw [p2, if_neg q2, ga_sa0, upd_ne _ _ q1]
      have e4 : ga (si (si (sa M3 0 g) 16 0) 2 0) 0 = g := ga_sa0 _ _ _
      have fx4 : FX M3 (si (si (sa M3 0 g) 16 0) 2 0) := by
        refine FX_trans (B := sa M3 0 g) ?_ (FX_trans (FX_si _ (by omega) _) (FX_si _ (by omega) _))
        exact ⟨rfl, rfl, rfl, rfl, rfl, rfl, rfl, rfl, rfl, rfl, rfl, rfl, fun k q1 q2 => by rw [ga_sa0]; exact go k (by omega) (by omega), fun _ _ _ => rfl⟩
      have x8 : ga (si (si (sa M3 0 g) 16 0) 2 0) 8 = ga M3 8 := rfl
      have x10 : gi (si (si (sa M3 0 g) 16 0) 2 0) 10 = gi M3 10 := rfl
      have x16 : gi (si (si (sa M3 0 g) 16 0) 2 0) 16 = 0 := rfl
      have x17 : gi (si (si (sa M3 0 g) 16 0) 2 0) 17 = gi M3 17 := rfl
      have x2 : gi (si (si (sa M3 0 g) 16 0) 2 0) 2 = 0 := rfl
      have xb : gb (si (si (sa M3 0 g) 16 0) 2 0) = gb M3 := rfl
      generalize si (si (sa M3 0 g) 16 0) 2 0 = M5 at *
      refine ⟨_, _, rfl, rfl, ?_, ?_⟩
      · show gi z2 6 = nI c'
        rw [k2.2.1]; exact a6
      · refine rel_tx (st := 0) hR rfl x2 ?_ ?_ (fun j j1 j2 => ?_) ⟨?_, ?_, ?_, ?_, ?_, ?_⟩ ?_ rfl rfl ?_
        · refine RB_season ?_ ?_ hR.2.1
          · intro k hk1 hk2
            rw [e4, Nat.zero_add, go k (by omega) (by omega)]; exact fa k (by omega)
          · intro k hk
            rw [xb]; exact fb _ (by omega)
        · exact RZ_copy (z := si z' 7 1) (b := sg 1) (M := M3) (o := 4160) k2 (by rw [e4]; exact g3) (fun k q1 q2 => by rw [e4, Nat.zero_add]; exact gk k q1 q2) rfl hRZ
        · unfold va_up
          rw [if_neg (by omega), if_neg (by omega), if_neg (by omega), if_neg (by omega), if_neg (by omega)]
        · show ga tk' 0 = ga M5 8
          rw [fk.2.1, x8, f8]; exact hK.1
        · show (0 : Int32) = gi M5 10
          rw [x10, f10]
        · show 0 ≤ (0 : Int32).toInt ∧ (0 : Int32).toInt ≤ 900
          decide
        · exact t12.trans x16.symm
        · show gi tk' 13 = gi M5 17
          rw [t13, x17, m17]
        · intro k
          show -128 ≤ (ga tk' 0 k).toInt ∧ (ga tk' 0 k).toInt < 128
          rw [fk.2.1]; exact hK.2.2.2.2.2 k
        · exact show KWD tk' from KWD_FK fk hW
        · exact FX_trans fx fx4
    · rw [e1, bs, w1, bs]
      unfold lt_
      dsimp only
      rw [i00, i10, c63, w2, bs, e2]
      refine ⟨_, _, rfl, rfl, rfl, ?_⟩
      obtain ⟨k, q1, q9, q2, q3, q4⟩ := hX
      refine rel_tx (st := 9) hR rfl rfl ?_ ?_ (fun j j1 j2 => ?_) ⟨?_, ?_, ?_, ?_, ?_, ?_⟩ ?_ rfl rfl ?_
      · exact RB_frame (fun k hk => fa _ (by omega)) (fun k hk => fb _ (by omega)) hR.2.1
      · exact RZ_frame (fa _ (by omega)) (fun k _ hk => fa _ (by omega)) rfl hR.2.2.1
      · unfold va_up
        rw [if_neg (by omega), if_neg (by omega), if_neg (by omega), if_neg (by omega), if_neg (by omega)]
      · show ga tk'' 0 = ga M4 8
        rw [fk.2.1, f8]; exact hK.1
      · show (0 : Int32) = gi M4 10
        rw [f10]
      · show 0 ≤ (0 : Int32).toInt ∧ (0 : Int32).toInt ≤ 900
        decide
      · exact q2.trans q3.symm
      · exact q4
      · intro k
        show -128 ≤ (ga tk'' 0 k).toInt ∧ (ga tk'' 0 k).toInt < 128
        rw [fk.2.1]; exact hK.2.2.2.2.2 k
      · exact show KWD tk'' from KWD_FK fk hW
      · exact FX_trans fx (FX_trans (FX_si _ (by omega) _) (FX_si _ (by omega) _))
