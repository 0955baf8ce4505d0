/-! ===== (B) the whole run; live, mean ===== -/
noncomputable def liveE (q : Rc ⊕ (Rc ⊕ Rc)) : Option Rc := Sum.elim (fun o32a => lt_ (sa o32a 34 (upd (ga o32a 34) (3 : Int32).toNatClampNeg (1 : Int32))) (fun s0_30 => some s0_30)) (fun e32_1 => Sum.elim (fun o32b => some o32b) (fun o32c => some o32c) e32_1) q
/-- how both lives end -/
def LE (M0 : Rc) (F nm : Nat) (lf b M : Rc) : Prop := RB b M 0 nm ∧ cF b = F ∧ (gi lf 2 = gi M 32 ∧ gi lf 3 = ga M 34 0 ∧ gi lf 4 = ga M 34 1 ∧ gi lf 5 = ga M 34 2 ∧ gi lf 6 = ga M 34 3 ∧ isb (gi lf 6) = true) ∧ (∀ k, (k = 3 ∨ 670 ≤ k) → ga M 0 k = ga M0 0 k) ∧ Fx M0 M ∧ gi M 2 = gi M0 2 ∧ ∃ s : Nat, s ≤ 200 ∧ gi M 32 = nI s
theorem LR_LE {M0 lf dr b M : Rc} {F nm s : Nat} (h : LR M0 F nm lf dr b M) (hs : s ≤ 200) (hst : gi M 32 = nI s) : LE M0 F nm lf b M := by
  obtain ⟨h1, h2, h3, ⟨h4, h5, h6, h7, h8, h9⟩, h10, h11, h12⟩ := h
  exact ⟨h1, h2, ⟨h4, h5, h6, h7, h8.trans h9.symm, by rw [h8]; decide⟩, h10, h11, h12, s, hs, hst⟩
theorem lives_go {M0 z b0 : Rc} {nm n : Nat} (h25 : gi M0 25 = -1) (h26 : gi M0 26 = 0) (hs : SZ z b0 M0 n) : ∀ (m s k tn : Nat) (lf dr b M : Rc), s + m = 200 → LR M0 (cF b0) nm lf dr b M → INV z n lf M k → k ≤ n → (k < n → ¬ ga z 0 k = 28) → gi M 32 = nI s → tn ≤ 160 * s → ∃ (lf' dr' b' M' : Rc) (q : Rc ⊕ (Rc ⊕ Rc)), loopF (fX3_run_L39 z) (nI k, nI tn, lf, dr, b) = some (lf', dr', b') ∧ loopF fX11_lives_L32 (nI k, M) = some q ∧ liveE q = some M' ∧ LE M0 (cF b0) nm lf' b' M' := by
  have c33 : (3 : Int32).toNatClampNeg = 3 := rfl
  have done : ∀ (s k tn : Nat) (lf dr b M : Rc), s ≤ 200 → LR M0 (cF b0) nm lf dr b M → k = n → gi M 32 = nI s → tn ≤ 160 * s → ∃ (lf' dr' b' M' : Rc) (q : Rc ⊕ (Rc ⊕ Rc)), loopF (fX3_run_L39 z) (nI k, nI tn, lf, dr, b) = some (lf', dr', b') ∧ loopF fX11_lives_L32 (nI k, M) = some q ∧ liveE q = some M' ∧ LE M0 (cF b0) nm lf' b' M' := by
    intro s k tn lf dr b M hs2 h hkn hst htn
    obtain ⟨s1, s2, s3, s4, s5⟩ := LR_SZ h hs
    refine ⟨lf, dr, b, M, .inr (.inr M), loopF_stop ?_, loopF_stop ?_, rfl, LR_LE h hs2 hst⟩
    · unfold fX3_run_L39
      dsimp only
      rw [if_neg (show ¬ (1000000 : Int32) ≤ nI tn from nI_ge (b := 1000000) (by omega) (by decide)), no_place s2 (by omega) (by omega), if_pos rfl]
    · unfold fX11_lives_L32
      dsimp only
      rw [c33, s3, if_pos (nI_le (by omega) (by omega))]
  intro m
  induction m with
  | zero =>
    intro s k tn lf dr b M hsm h hi hkn hk28 hst htn
    have e200 : s = 200 := by omega
    subst e200
    rcases Nat.lt_or_ge k n with q | q
    · obtain ⟨s1, s2, s3, s4, s5⟩ := LR_SZ h hs
      have hst2 : gi lf 2 = nI 200 := h.2.2.2.1.1.trans hst
      have h6 : gi lf 6 = 0 := h.2.2.2.1.2.2.2.2.1
      have t1 : fX3_run_L39 z (nI k, nI tn, lf, dr, b) = some (.inl (nI k, nI (tn + 1), si lf 6 1, dr, b)) := by
        unfold fX3_run_L39 fX3_run_J79 lt_
        dsimp only
        rw [if_neg (show ¬ (1000000 : Int32) ≤ nI tn from nI_ge (b := 1000000) (by omega) (by decide)), has_place s2 s1 q, if_neg (by decide), h6, if_pos rfl, gd_pos (inbn (by omega) (by decide)), nI_clamp (by omega), if_neg (hk28 q), if_neg (by decide), hst2, if_pos (show nI 200 = 200 from rfl), nI_1]
      have t2 : fX3_run_L39 z (nI k, nI (tn + 1), si lf 6 1, dr, b) = some (.inr (si lf 6 1, dr, b)) := by
        unfold fX3_run_L39
        dsimp only
        rw [if_neg (show ¬ (1000000 : Int32) ≤ nI (tn + 1) from nI_ge (b := 1000000) (by omega) (by decide)), has_place s2 s1 q, if_neg (by decide), if_neg (show ¬ gi (si lf 6 1) 6 = 0 from (by decide : ¬ (1 : Int32) = 0))]
      have t3 : fX11_lives_L32 (nI k, M) = some (.inr (.inl M)) := by
        unfold fX11_lives_L32
        dsimp only
        rw [c33, s3, if_neg (nI_ge q (by omega)), hst, if_pos (show nI 200 = 200 from rfl)]
      refine ⟨si lf 6 1, dr, b, sa M 34 (upd (ga M 34) 3 1), .inl M, loopF_step t1 (loopF_stop t2), loopF_stop t3, rfl, ?_⟩
      obtain ⟨h1, h2, h3, ⟨h4, h5, h6, h7, h8, h9⟩, h10, h11, h12⟩ := h
      refine ⟨h1, h2, ⟨h4, ?_, ?_, ?_, ?_, by rw [show gi (si lf 6 1) 6 = 1 from rfl]; decide⟩, h10, fx_trans h11 (fx_34 _ _), h12, 200, by omega, hst⟩
      · rw [ga_sa0, upd_ne _ _ (by decide)]; exact h5
      · rw [ga_sa0, upd_ne _ _ (by decide)]; exact h6
      · rw [ga_sa0, upd_ne _ _ (by decide)]; exact h7
      · rw [ga_sa0, upd_eq]; rfl
    · exact done 200 k tn lf dr b M (by omega) h (by omega) hst htn
  | succ m ih =>
    intro s k tn lf dr b M hsm h hi hkn hk28 hst htn
    rcases Nat.lt_or_ge k n with q | q
    · obtain ⟨s1, s2, s3, s4, s5⟩ := LR_SZ h hs
      by_cases k29 : ga z 0 k = 29
      · -- stop
        have hst2 : gi lf 2 = nI s := h.2.2.2.1.1.trans hst
        have h6 : gi lf 6 = 0 := h.2.2.2.1.2.2.2.2.1
        have hL1 := LR_one h (nI (s + 1))
        have t1 : fX3_run_L39 z (nI k, nI tn, lf, dr, b) = some (.inl (nI n, nI (tn + 1), si lf 2 (nI (s + 1)), dr, b)) := by
          unfold fX3_run_L39 fX3_run_J79 fX3_run_J104 fX3_follow lt_
          dsimp only
          rw [if_neg (show ¬ (1000000 : Int32) ≤ nI tn from nI_ge (b := 1000000) (by omega) (by decide)), has_place s2 s1 q, if_neg (by decide), h6, if_pos rfl, gd_pos (inbn (by omega) (by decide)), nI_clamp (by omega), if_neg (hk28 q), if_neg (by decide), hst2, if_neg (show ¬ nI s = 200 from fun z => by have := (nI_eq (a := s) (b := 200) (by omega) (by decide)).mp z; omega), show nI s + fX10_bit 1 = nI (s + 1) from nI_1 s, nI_1, gd_pos (inbn (by omega) (by decide)), k29, if_neg (by decide), if_neg (by decide), if_neg (by decide), if_neg (by decide), if_neg (by decide), if_pos rfl]
          dsimp only [Option.bind]
          rw [s2, show nI tn + 1 = nI (tn + 1) from nI_1 tn]
        have t2 : fX3_run_L39 z (nI n, nI (tn + 1), si lf 2 (nI (s + 1)), dr, b) = some (.inr (si lf 2 (nI (s + 1)), dr, b)) := by
          unfold fX3_run_L39
          dsimp only
          rw [if_neg (show ¬ (1000000 : Int32) ≤ nI (tn + 1) from nI_ge (b := 1000000) (by omega) (by decide)), no_place s2 (Nat.le_refl _) (by omega), if_pos rfl]
        have t3 : fX11_lives_L32 (nI k, M) = some (.inr (.inr (.inl (si M 32 (nI (s + 1)))))) := by
          unfold fX11_lives_L32 lt_
          dsimp only
          rw [c33, s3, if_neg (nI_ge q (by omega)), hst, if_neg (show ¬ nI s = 200 from fun z => by have := (nI_eq (a := s) (b := 200) (by omega) (by decide)).mp z; omega), st_i0, gd_pos (inbn (by omega) (by decide)), nI_clamp (by omega), nI_1, show ga (si M 32 (nI (s + 1))) 0 (670 + 6 * k) = kmap (ga z 0 k) from kind_at (s4 k q), k29, if_pos (show kmap 29 = 26 from rfl)]
        exact ⟨_, _, _, _, _, loopF_step t1 (loopF_stop t2), loopF_stop t3, rfl, LR_LE hL1 (by omega) rfl⟩
      · obtain ⟨k', lf', dr', b', M', a1, a2, a3, a4, a5, a6⟩ := step_one h25 h26 h hs hi q (hk28 q) k29 hst (by omega) (by omega : tn < 1000000)
        obtain ⟨e', j, lf2, M2, c1, c2, c3, c4, c5, c6, c7, c8⟩ := chain (nm := nm) hs 158 k' (tn + 1) lf' M' a3 a4 a6 (chain_bnd a3 hs a4) (by omega)
        rw [c2] at a2
        obtain ⟨lf3, dr3, b3, M3, q3, r1, r2, r3, r4⟩ := ih (s + 1) e' (tn + 1 + j) lf2 dr' b' M2 (by omega) c3 c4 c6 c7 (c5.trans a5) (by omega)
        exact ⟨lf3, dr3, b3, M3, q3, loopF_step a1 (c1 _ r1), loopF_step a2 r2, r3, r4⟩
    · exact done s k tn lf dr b M (by omega) h (by omega) hst htn
theorem ran_zero (M : Rc) : ∃ r : Nat → Int32, loopF fX11_lives_L12 ((0 : Int32), M) = some (sa M 34 r) ∧ ∀ j, j < 4 → r j = 0 := by
  obtain ⟨q, l, r, rfl, hr⟩ := loop_one (b := fX11_lives_L12) (fun i s => ∃ r, s = (nI i, sa M 34 r) ∧ ∀ j, j < i → r j = 0) (fun q => ∃ r, q = sa M 34 r ∧ ∀ j, j < 4 → r j = 0) 4 (fun i s hi h => by
      obtain ⟨r, rfl, hr⟩ := h
      left
      unfold fX11_lives_L12 lt_
      dsimp only
      rw [if_neg (show ¬ (4 : Int32) ≤ nI i from nI_ge (b := 4) hi (by decide)), gd_pos (inbn hi (by decide)), nI_clamp (by omega), nI_1, sa_sa, ga_sa0]
      refine ⟨_, rfl, _, rfl, fun j hj => ?_⟩
      by_cases c : j = i
      · subst c; exact upd_eq _ _ _
      · rw [upd_ne _ _ c]; exact hr j (by omega)) (fun s h => by
      obtain ⟨r, rfl, hr⟩ := h
      unfold fX11_lives_L12
      dsimp only
      rw [if_pos (show (4 : Int32) ≤ nI 4 by decide)]
      exact ⟨_, rfl, r, rfl, hr⟩) 4 0 ((0 : Int32), M) (by omega) ⟨ga M 34, by rw [sa_id]; rfl, fun j hj => absurd hj (Nat.not_lt_zero j)⟩
  exact ⟨r, l, hr⟩
theorem lives_eq {b M z lf dr : Rc} {nm n : Nat} (hR : RB b M 0 nm) (h25 : gi M 25 = -1) (h26 : gi M 26 = 0) (hs : SZ z b M n) (seed : Int32) : ∃ (lf' dr' b' M' : Rc), fX3_run seed lf dr b z = some (lf', dr', b') ∧ fX11_lives seed M = some M' ∧ LE M (cF b) nm lf' b' M' := by
  obtain ⟨r, l12, hr⟩ := ran_zero (si (si M 24 seed) 32 0)
  have hL : LR M (cF b) nm (si (si (si (si (si lf 2 0) 3 0) 4 0) 5 0) 6 0) (si dr 0 seed) b (sa (si (si M 24 seed) 32 0) 34 r) := by
    refine ⟨hR, rfl, rfl, ⟨rfl, ?_, ?_, ?_, rfl, ?_⟩, fun _ _ => rfl, ⟨rfl, rfl, rfl, rfl, rfl, rfl, rfl, rfl, rfl, rfl, rfl, rfl, rfl, rfl, rfl, rfl, rfl⟩, rfl⟩
    · rw [ga_sa0, hr 0 (by omega)]; rfl
    · rw [ga_sa0, hr 1 (by omega)]; rfl
    · rw [ga_sa0, hr 2 (by omega)]; rfl
    · rw [ga_sa0, hr 3 (by omega)]
  obtain ⟨lf', dr', b', M', q, r1, r2, r3, r4⟩ := lives_go h25 h26 hs 200 0 0 0 _ _ _ _ (by omega) hL (fun o p _ _ _ _ h _ => absurd h (Nat.not_lt_zero o)) (Nat.zero_le _) (fun hn z28 => by
    obtain ⟨p, p1, -⟩ := end_at (hs.2.2.2.1 0 hn) z28
    exact absurd p1 (Nat.not_lt_zero p)) rfl (by omega)
  refine ⟨lf', dr', b', M', ?_, ?_, r4⟩
  · unfold fX3_run fX2_begin lt_
    dsimp only
    rw [show ((0 : Int32), (0 : Int32), si (si (si (si (si lf 2 0) 3 0) 4 0) 5 0) 6 0, si dr 0 seed, b) = (nI 0, nI 0, si (si (si (si (si lf 2 0) 3 0) 4 0) 5 0) 6 0, si dr 0 seed, b) from rfl, r1]
    rfl
  · unfold fX11_lives lt_
    dsimp only
    rw [l12]
    dsimp only [Option.bind]
    rw [show ((0 : Int32), sa (si (si M 24 seed) 32 0) 34 r) = (nI 0, sa (si (si M 24 seed) 32 0) 34 r) from rfl, r2]
    exact r3
theorem RZ_SZ {z b M : Rc} (h : RZ z b M 0) : (gi z 7 = 0 ∧ ga M 0 3 = -1) ∨ (gi z 7 = 1 ∧ ∃ n, SZ z b M n) := by
  rcases h with ⟨a, c⟩ | ⟨a, n, n1, n2, n3, n4, n5⟩
  · rw [Nat.zero_add] at c
    exact Or.inl ⟨a, c⟩
  · rw [Nat.zero_add] at n3
    exact Or.inr ⟨a, n, n1, n2, n3, n4, n5⟩
theorem told_copy (M : Rc) : ∃ r : Nat → Int32, loopF fX11_live_L42 ((0 : Int32), M) = some (sa M 35 r) ∧ ∀ j, j < 4 → r j = ga M 34 j := by
  obtain ⟨q, l, r, rfl, hr⟩ := loop_one (b := fX11_live_L42) (fun i s => ∃ r, s = (nI i, sa M 35 r) ∧ ∀ j, j < i → r j = ga M 34 j) (fun q => ∃ r, q = sa M 35 r ∧ ∀ j, j < 4 → r j = ga M 34 j) 4 (fun i s hi h => by
      obtain ⟨r, rfl, hr⟩ := h
      left
      unfold fX11_live_L42 lt_
      dsimp only
      rw [if_neg (show ¬ (4 : Int32) ≤ nI i from nI_ge (b := 4) hi (by decide)), gd_pos (inbn hi (by decide)), nI_clamp (by omega), nI_1, sa_sa, ga_sa0]
      refine ⟨_, rfl, _, rfl, fun j hj => ?_⟩
      by_cases c : j = i
      · subst c; rw [upd_eq]; rfl
      · rw [upd_ne _ _ c]; exact hr j (by omega)) (fun s h => by
      obtain ⟨r, rfl, hr⟩ := h
      unfold fX11_live_L42
      dsimp only
      rw [if_pos (show (4 : Int32) ≤ nI 4 by decide)]
      exact ⟨_, rfl, r, rfl, hr⟩) 4 0 ((0 : Int32), M) (by omega) ⟨ga M 35, by rw [sa_id]; rfl, fun j hj => absurd hj (Nat.not_lt_zero j)⟩
  exact ⟨r, l, hr⟩
theorem b_live : BT_live Rel := by
  intro sg M hR p1
  have hb := hR.2.1
  obtain ⟨-, h25, h26⟩ := rel_b hR
  unfold fX10_live fX11_live
  have c33 : (3 : Int32).toNatClampNeg = 3 := rfl
  have no : ∀ v : Int32, ∃ (r1 : Int32 × Rc × Rc × Rc × Rc) (r2 : Int32 × Rc), lt_ (fX10_refuse v (sg 0)) (fun r => some (r.1, r.2, sg 1, sg 18, sg 19)) = some r1 ∧ lt_ (fX11_refuse v M) (fun r => some (r.1, r.2)) = some r2 ∧ r1.1 = r2.1 ∧ Rel (va_up (va_up (va_up (va_up sg 0 r1.2.1) 1 r1.2.2.1) 18 r1.2.2.2.1) 19 r1.2.2.2.2) r2.2 := by
    intro v
    refine ⟨_, _, rfl, rfl, rfl, ?_⟩
    obtain ⟨h1, h2, h3, h4, h5, h6, h7, h8, h9, h10⟩ := hR
    exact ⟨st_eq h1 v, h2, h3, h4, h5, h6, h7, h8, h9, h10⟩
  rcases rng_cases p1 0 9999 (lo' := 0) (hi' := 9999) rfl rfl with ⟨-, -, e3, e4⟩ | ⟨-, e3, e4⟩
  · rw [e3, e4, i00, i10, c33]
    rcases RZ_SZ hR.2.2.1 with ⟨z7, m3⟩ | ⟨z7, n, hs⟩
    · rw [z7, m3, if_pos rfl, if_pos rfl]
      exact no 6
    · have hn := hs.1
      rw [z7, hs.2.2.1, if_neg (by decide), if_neg (nI_m1 (by omega))]
      obtain ⟨lf', dr', b', M', r1, r2, r3⟩ := lives_eq (lf := sg 18) (dr := sg 19) hb h25 h26 hs p1
      obtain ⟨r, t1, t2⟩ := told_copy M'
      rw [r1, r2]
      dsimp only [Option.bind]
      rw [t1]
      obtain ⟨w1, w2, ⟨w3, w4, w5, w6, w7, w8⟩, w9, w10, w11, s, w12, w13⟩ := r3
      refine ⟨_, _, rfl, rfl, w3, ?_⟩
      have rb := rel_bench hR (M' := M') w1 w2 w9 w10 0
      obtain ⟨h1, h2, h3, h4, h5, h6, h7, h8, h9, h10⟩ := rb
      refine ⟨h1, h2, h3, h4, h5, h6, ?_, h8, h9, h10⟩
      show (gi lf' 2 = -1 ↔ (1 : Int32) = 0) ∧ ((1 : Int32) = 0 ∨ (1 : Int32) = 1) ∧ ((1 : Int32) = 1 → gi lf' 3 = r 0 ∧ gi lf' 4 = r 1 ∧ gi lf' 5 = r 2 ∧ gi lf' 6 = r 3 ∧ isb (gi lf' 6) = true)
      refine ⟨⟨fun q => ?_, fun q => absurd q (by decide)⟩, Or.inr rfl, fun _ => ?_⟩
      · rw [w3, w13] at q
        exact absurd q (nI_m1 (by omega))
      · rw [t2 0 (by omega), t2 1 (by omega), t2 2 (by omega), t2 3 (by omega)]
        exact ⟨w4, w5, w6, w7, w8⟩
  · rw [e3, e4, i10, i00]
    exact no 1
