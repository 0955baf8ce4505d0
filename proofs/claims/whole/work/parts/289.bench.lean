/-! ===== (B) a bench's text: its parts, one after another ===== -/
theorem J74_1 {M M' : Rc} {x : Int32} (h : fX11_wantSign 59 M = some (x, M')) (hx : x = 0 ∨ x = 1) : fX11_benchPart_J74 1 M = some (x, M') := by
  unfold fX11_benchPart_J74
  rw [i10, h, bs]
  rcases hx with rfl | rfl
  · rfl
  · rfl
theorem J74_0 (M : Rc) : fX11_benchPart_J74 0 M = some (0, M) := rfl
theorem part_eq {t : Nat → Int32} {N e : Nat} {bt tk d M : Rc} {F D : Nat} (h : G t N e tk M) (hd : DR d M F D) (hv : gi bt 3 = gi M 20) (hb : isb (gi bt 3) = true) : ∃ m, PT t N e tk M (fX1_readPart bt tk d) m ∧ fX11_benchPart M = m.bind (fun r => fX11_benchPart_J74 r.1 r.2) := by
  obtain ⟨-, -, hk, hw⟩ := G_tok h
  unfold fX1_readPart fX11_benchPart
  rw [hw, bs]
  have w0 : rki (gi tk 8) = 0 ↔ gi tk 8 = 0 := rki_eq hk (j := 0) (by decide) rfl
  have w1 : rki (gi tk 8) = 1 ↔ gi tk 8 = 7 := rki_eq hk (j := 7) (by decide) rfl
  have w2 : rki (gi tk 8) = 2 ↔ gi tk 8 = 8 := rki_eq hk (j := 8) (by decide) rfl
  have w3 : rki (gi tk 8) = 3 ↔ gi tk 8 = 9 := rki_eq hk (j := 9) (by decide) rfl
  by_cases k0 : gi tk 8 = 0
  · rw [if_pos k0, if_pos (w0.2 k0)]
    exact ⟨_, farmer_part h hd hv hb, rfl⟩
  · rw [if_neg k0, if_neg (fun z => k0 (w0.1 z))]
    by_cases k1 : gi tk 8 = 7
    · rw [if_pos k1, if_pos (w1.2 k1)]
      exact ⟨_, dislike_part h hd hv hb, rfl⟩
    · rw [if_neg k1, if_neg (fun z => k1 (w1.1 z))]
      by_cases k2 : gi tk 8 = 8
      · rw [if_pos k2, if_pos (w2.2 k2)]
        exact ⟨_, weather_eq h hd hv hb, rfl⟩
      · rw [if_neg k2, if_neg (fun z => k2 (w2.1 z))]
        by_cases k3 : gi tk 8 = 9
        · rw [if_pos k3, if_pos (w3.2 k3)]
          have q := vote_eq h hd hv hb
          refine ⟨_, ?_, rfl⟩
          have e1 : (fX1_readVote bt tk d).bind (fun r21 => some (r21.1, r21.2.1, r21.2.2.1, r21.2.2.2)) = fX1_readVote bt tk d := by
            cases fX1_readVote bt tk d <;> rfl
          rw [e1]
          exact q
        · rw [if_neg k3, if_neg (fun z => k3 (w3.1 z))]
          obtain ⟨tk', M', q1, q2, q3, q4, q5⟩ := fail_G h (k := 2) (by decide) (by decide)
          unfold lt_
          dsimp only
          rw [show fX8_fail 2 tk = _ from q1, show fX11_fails 2 M = _ from q2]
          exact ⟨some (0, M'), PT_X q3 q4 q5 _ _, rfl⟩
theorem bench_step {t : Nat → Int32} {N e : Nat} {bt tk d M : Rc} {F D : Nat} (h : G t N e tk M) (hd : DR d M F D) (hv : gi bt 3 = gi M 20) (hb : isb (gi bt 3) = true) {p : Nat} (hp : p < 900) (hE : ¬ gi tk 6 = 0) : ∃ (bt' tk' d' M' : Rc), FK tk tk' ∧ FP M M' ∧ ((fX1_isRead_L23 ((1 : Int32), nI p, bt, tk, d) = some (.inl ((1 : Int32), nI (p + 1), bt', tk', d')) ∧ fX11_benchPart M = some ((1 : Int32), M') ∧ (∃ e', (gi M' 12 = 0 ∨ e < e') ∧ G t N e' tk' M') ∧ (∃ F D, DR d' M' F D) ∧ gi bt' 3 = gi M' 20 ∧ isb (gi bt' 3) = true) ∨ (fX1_isRead_L23 ((1 : Int32), nI p, bt, tk, d) = some (.inl ((0 : Int32), nI (p + 1), bt', tk', d')) ∧ ((fX11_benchPart M = some ((0 : Int32), M') ∧ X_ tk' M') ∨ (fX11_benchPart M = some ((1 : Int32), M') ∧ Y_ tk' M')))) := by
  obtain ⟨m, hPT, hm⟩ := part_eq h hd hv hb
  have eE : fX8_isAtEnd tk = 0 := by
    unfold fX8_isAtEnd; rw [if_neg hE]
  have eC : fX1_isRead_L23 ((1 : Int32), nI p, bt, tk, d) = (fX1_readPart bt tk d).bind (fun r13 => if r13.1 = (0 : Int32) then some (.inl ((0 : Int32), nI (p + 1), r13.2.1, r13.2.2.1, r13.2.2.2)) else (fX8_passSign (59 : Int32) r13.2.2.1).bind (fun r16 => if r16.1 = (0 : Int32) then some (.inl ((0 : Int32), nI (p + 1), r13.2.1, r16.2, r13.2.2.2)) else some (.inl ((1 : Int32), nI (p + 1), r13.2.1, r16.2, r13.2.2.2)))) := by
    unfold fX1_isRead_L23
    dsimp only
    rw [if_neg (show ¬ (900 : Int32) ≤ nI p from nI_ge (b := 900) hp (by decide)), i10, if_pos eE, show nI p + 1 = nI (p + 1) from (nI_succ p).symm]
  rw [eC, hm]
  obtain ⟨bt', tk', d', M', fk, fp, ⟨c1, m1, ⟨e', he', hG⟩, hD, hv', hb'⟩ | ⟨c1, m1, hY⟩ | ⟨c1, m1, hX⟩⟩ := hPT
  · rw [c1, m1, bs, bs]
    dsimp only
    rw [i10]
    rcases sign_G hG 59 with ⟨tk2, M2, s1, s2, fc, fa, e2, he2, hs2, hG2⟩ | ⟨tk2, M2, s1, fk2, fp2, ⟨s2, hY⟩ | ⟨s2, hX⟩⟩
    · rw [s1, bs, J74_1 s2 (Or.inr rfl)]
      refine ⟨bt', tk2, d', M2, FK_trans fk (FC_FK fc), FP_trans fp (FA_FP fa), Or.inl ⟨rfl, rfl, ⟨e2, ?_, hG2⟩, ?_, hv'.trans (fa.2 20 (by omega)).symm, hb'⟩⟩
      · rcases hs2 with w | w
        · exact Or.inl w
        · exact Or.inr (by omega)
      · obtain ⟨F', D', hD⟩ := hD
        exact ⟨F', D', DR_FA hD fa⟩
    · rw [s1, bs, J74_1 s2 (Or.inr rfl)]
      exact ⟨bt', tk2, d', M2, FK_trans fk fk2, FP_trans fp fp2, Or.inr ⟨rfl, Or.inr ⟨rfl, hY⟩⟩⟩
    · rw [s1, bs, J74_1 s2 (Or.inl rfl)]
      exact ⟨bt', tk2, d', M2, FK_trans fk fk2, FP_trans fp fp2, Or.inr ⟨rfl, Or.inl ⟨rfl, hX⟩⟩⟩
  · rw [c1, m1, bs, bs]
    obtain ⟨M2, s1, fp2, hX⟩ := sign_Y hY 59
    dsimp only
    rw [J74_1 s1 (Or.inl rfl)]
    exact ⟨bt', tk', d', M2, fk, FP_trans fp fp2, Or.inr ⟨rfl, Or.inl ⟨rfl, hX⟩⟩⟩
  · rw [c1, m1, bs, bs]
    exact ⟨bt', tk', d', M', fk, fp, Or.inr ⟨rfl, Or.inl ⟨rfl, hX⟩⟩⟩
/-- the whole text -/
def RDE (tk M : Rc) (c : Option (Int32 × Rc × Rc × Rc)) (m : Option Rc) : Prop := ∃ (bt' tk' d' M' : Rc), FK tk tk' ∧ FP M M' ∧ m = some M' ∧ ((c = some ((1 : Int32), bt', tk', d') ∧ gi tk' 12 = 0 ∧ gi tk' 13 = -1 ∧ gi M' 18 = 0 ∧ gi M' 17 = -1 ∧ ∃ F D, DR d' M' F D) ∨ (c = some ((0 : Int32), bt', tk', d') ∧ X_ tk' M'))
theorem G_end {t : Nat → Int32} {N e : Nat} {tk M : Rc} (h : G t N e tk M) : gi tk 6 = 0 ↔ gi M 12 = 0 := by
  obtain ⟨-, ⟨a, -, -, -, -, -, -, ht⟩, -⟩ := h
  rcases ht with ⟨q1, q2, -⟩ | ⟨q1, q2, -⟩ | ⟨q1, q2, -⟩ | ⟨q1, q2, -⟩ <;> (rw [q1, q2] <;> decide)
theorem L31_0 (M : Rc) : fX11_bench_L31 ((0 : Int32), M) = some (.inr M) := rfl
theorem L23_0 {p : Int32} {bt tk d : Rc} : fX1_isRead_L23 ((0 : Int32), p, bt, tk, d) = some (.inr ((0 : Int32), bt, tk, d)) := by
  unfold fX1_isRead_L23
  dsimp only
  split
  · rfl
  · rfl
theorem read_end {t : Nat → Int32} {N e : Nat} {bt tk d M : Rc} {F D : Nat} (h : G t N e tk M) (hd : DR d M F D) (p : Int32) (hE : gi M 12 = 0) : RDE tk M (loopF fX1_isRead_L23 ((1 : Int32), p, bt, tk, d)) (loopF fX11_bench_L31 ((1 : Int32), M)) := by
  have c : fX1_isRead_L23 ((1 : Int32), p, bt, tk, d) = some (.inr ((1 : Int32), bt, tk, d)) := by
    unfold fX1_isRead_L23
    dsimp only
    have eE : fX8_isAtEnd tk = 1 := by
      unfold fX8_isAtEnd; rw [if_pos ((G_end h).2 hE)]
    rw [eE, i10, i10]
    split <;> rfl
  have m : fX11_bench_L31 ((1 : Int32), M) = some (.inr M) := by
    unfold fX11_bench_L31
    dsimp only
    rw [i10, if_pos hE]
  obtain ⟨-, -, c1, c2, c3, c4⟩ := h
  exact ⟨bt, tk, d, M, FK_refl _, FP_refl _, loopF_stop m, Or.inl ⟨loopF_stop c, c1, c2, c3, c4, F, D, hd⟩⟩
theorem read_go {t : Nat → Int32} {N : Nat} : ∀ (n e p : Nat) (bt tk d M : Rc) (F D : Nat), N + 1 - e ≤ n → G t N e tk M → DR d M F D → gi bt 3 = gi M 20 → isb (gi bt 3) = true → (gi M 12 = 0 ∨ p < e) → RDE tk M (loopF fX1_isRead_L23 ((1 : Int32), nI p, bt, tk, d)) (loopF fX11_bench_L31 ((1 : Int32), M)) := by
  intro n
  induction n with
  | zero =>
    intro e p bt tk d M F D hn h
    have := (G_e h).2.2
    omega
  | succ n ih =>
    intro e p bt tk d M F D hn h hd hv hb hp
    by_cases hE : gi M 12 = 0
    · exact read_end h hd _ hE
    · have hpe : p < e := by
        rcases hp with z | z
        · exact absurd z hE
        · exact z
      have heN := (G_e h).2.2
      have hN : N ≤ 900 := h.1.2.2.2.1
      have m0 : ∀ {x : Int32} {M' : Rc}, fX11_benchPart M = some (x, M') → fX11_bench_L31 ((1 : Int32), M) = some (.inl (x, M')) := fun {x M'} z => by
        unfold fX11_bench_L31
        dsimp only
        rw [i10, if_neg hE, z]
        rfl
      obtain ⟨bt', tk', d', M', fk, fp, ⟨c1, m1, ⟨e', he', hG⟩, ⟨F', D', hD⟩, hv', hb'⟩ | ⟨c1, ⟨m1, hX⟩ | ⟨m1, hY⟩⟩⟩ := bench_step h hd hv hb (p := p) (by omega) (fun z => hE ((G_end h).1 z))
      · have q : RDE tk' M' (loopF fX1_isRead_L23 ((1 : Int32), nI (p + 1), bt', tk', d')) (loopF fX11_bench_L31 ((1 : Int32), M')) := by
          rcases he' with w | w
          · exact read_end hG hD _ w
          · exact ih e' (p + 1) bt' tk' d' M' F' D' (by omega) hG hD hv' hb' (Or.inr (by omega))
        obtain ⟨bt2, tk2, d2, M2, fk2, fp2, mm, cc⟩ := q
        refine ⟨bt2, tk2, d2, M2, FK_trans fk fk2, FP_trans fp fp2, loopF_step (m0 m1) mm, ?_⟩
        rcases cc with ⟨cc, r⟩ | ⟨cc, r⟩
        · exact Or.inl ⟨loopF_step c1 cc, r⟩
        · exact Or.inr ⟨loopF_step c1 cc, r⟩
      · exact ⟨bt', tk', d', M', fk, fp, loopF_step (m0 m1) (loopF_stop (L31_0 M')), Or.inr ⟨loopF_step c1 (loopF_stop L23_0), hX⟩⟩
      · obtain ⟨M2, s1, fp2, hX⟩ := fails_Y hY 2
        have m2 : fX11_bench_L31 ((1 : Int32), M') = some (.inl ((0 : Int32), M2)) := by
          unfold fX11_bench_L31 fX11_benchPart
          dsimp only
          rw [i10, hY.2.2.1, i10, inWords_bad hY.2.2.1, bs, if_neg (by decide), if_neg (by decide), if_neg (by decide), if_neg (by decide)]
          unfold lt_
          rw [s1]
          rfl
        exact ⟨bt', tk', d', M2, fk, FP_trans fp fp2, loopF_step (m0 m1) (loopF_step m2 (loopF_stop (L31_0 M2))), Or.inr ⟨loopF_step c1 (loopF_stop L23_0), hX⟩⟩
