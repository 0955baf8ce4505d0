/-! ===== (B) a season is lived: steps, one behind the other ===== -/
theorem chain_bnd {M0 lf dr b M z b0 : Rc} {nm n e : Nat} (h : LR M0 (cF b0) nm lf dr b M) (hs : SZ z b0 M0 n) (hi : INV z n lf M e) : (n - e) + (if e < n ∧ ga z 0 e = 28 ∧ 1 ≤ e ∧ ga z 0 (e - 1) = 27 then (ga M 33 (e - 1)).toInt.toNat else 0) ≤ 158 := by
  obtain ⟨s1, s2, s3, s4, s5⟩ := LR_SZ h hs
  split
  · rename_i w
    obtain ⟨w1, w2, w3, w4⟩ := w
    obtain ⟨q, q1, q2, q3, q4, -⟩ := end_at (s4 e w1) w2
    obtain ⟨p, p1, p2, p3, -, -, -⟩ := opn_at (s4 (e - 1) (by omega)) (Or.inr (Or.inr (Or.inr w4)))
    have hq : q = e - 1 := by
      rcases Nat.lt_or_ge q (e - 1) with c | c
      · have := s5 q (e - 1) e p (by omega) (by omega) q2 (Or.inr (Or.inr (Or.inr w4))) q4 p3 c (by omega) w1 p2
        omega
      · omega
    subst hq
    obtain ⟨c, c1, c2, c3⟩ := hi (e - 1) e (by omega) w1 w4 q4 (by omega) (Nat.le_refl _)
    rw [c2, nI_toInt (by omega)]
    omega
  · omega
theorem LR_one {M0 lf dr b M : Rc} {F nm : Nat} (h : LR M0 F nm lf dr b M) (v : Int32) : LR M0 F nm (si lf 2 v) dr b (si M 32 v) := by
  obtain ⟨h1, h2, h3, ⟨h4, h5, h6, h7, h8, h9⟩, h10, h11, h12⟩ := h
  exact ⟨h1, h2, h3, ⟨rfl, h5, h6, h7, h8, h9⟩, h10, fx_trans h11 (fx_32 _ _), h12⟩
theorem LR_ms {M0 lf dr b M : Rc} {F nm : Nat} (h : LR M0 F nm lf dr b M) : LR M0 F nm lf dr b (ms M (ga M 34 0) true) := by
  have := LR_bench0 h (b' := b) (g := ga M 0) (by rw [sa_id]; exact h.1) rfl (fun _ _ => rfl)
  rw [sa_id] at this
  exact this
theorem does_def {M : Rc} {k : Nat} (hk : k < 60) (hK : ga M 0 (670 + 6 * k) = 24 ∨ ga M 0 (670 + 6 * k) = 2327 ∨ ga M 0 (670 + 6 * k) = 2328 ∨ ga M 0 (670 + 6 * k) = 2329) : fX11_does (nI (670 + 6 * k)) M = some ((1 : Int32), M) := by
  have i1 : nI (670 + 6 * k) + (1 : Int32) = nI (670 + 6 * k + 1) := nI_1 _
  have i2 : nI (670 + 6 * k) + (2 : Int32) = nI (670 + 6 * k + 2) := nI_add _ 2
  unfold fX11_does lt_
  simp only [i1, i2, gd_pos (inbn (k := 670 + 6 * k) (n := 6240) (by omega) (by decide)), gd_pos (inbn (k := 670 + 6 * k + 1) (n := 6240) (by omega) (by decide)), gd_pos (inbn (k := 670 + 6 * k + 2) (n := 6240) (by omega) (by decide)), nI_clamp (show 670 + 6 * k < 2 ^ 31 by omega)]
  rcases hK with e | e | e | e
  all_goals (rw [e, if_neg (by decide), if_neg (by decide), if_neg (by decide), if_neg (by decide), if_neg (by decide), if_neg (by decide), if_neg (by decide), if_neg (by decide)])
theorem step_one {M0 lf dr b M z b0 : Rc} {nm n k tn s : Nat} (h25 : gi M0 25 = -1) (h26 : gi M0 26 = 0) (h : LR M0 (cF b0) nm lf dr b M) (hs : SZ z b0 M0 n) (hi : INV z n lf M k) (hk : k < n) (k28 : ¬ ga z 0 k = 28) (k29 : ¬ ga z 0 k = 29) (hst : gi M 32 = nI s) (hs2 : s < 200) (ht : tn < 1000000) : ∃ (k' : Nat) (lf' dr' b' M' : Rc), fX3_run_L39 z (nI k, nI tn, lf, dr, b) = some (.inl (nI k', nI (tn + 1), lf', dr', b')) ∧ fX11_lives_L32 (nI k, M) = (fX11_behindEnds (nI k') M').bind (fun r => some (.inl (r.1, r.2))) ∧ LR M0 (cF b0) nm lf' dr' b' M' ∧ INV z n lf' M' k' ∧ gi M' 32 = nI (s + 1) ∧ k' ≤ n := by
  have hL1 := LR_one h (nI (s + 1))
  obtain ⟨s1, s2, s3, s4, s5⟩ := LR_SZ h hs
  have hzk := s4 k hk
  have hkm := kind_at hzk
  have hst2 : gi lf 2 = nI s := h.2.2.2.1.1.trans hst
  have h6 : gi lf 6 = 0 := h.2.2.2.1.2.2.2.2.1
  have c33 : (3 : Int32).toNatClampNeg = 3 := rfl
  have c00 : (0 : Int32).toNatClampNeg = 0 := rfl
  have km26 : ¬ kmap (ga z 0 k) = 26 := by
    rcases kind_in hzk with w | w | w | w | w | w | w | w | w | w | w | w | w | w
    all_goals first | exact absurd w k28 | exact absurd w k29 | (rw [w]; decide)
  have clsA : fX3_run_L39 z (nI k, nI tn, lf, dr, b) = (fX3_follow (nI k) (si lf 2 (nI (s + 1))) dr b z).bind (fun r => some (.inl (r.1, nI (tn + 1), r.2.1, r.2.2.1, r.2.2.2))) := by
    unfold fX3_run_L39 fX3_run_J79 fX3_run_J104 lt_
    dsimp only
    rw [if_neg (show ¬ (1000000 : Int32) ≤ nI tn from nI_ge (b := 1000000) ht (by decide)), has_place s2 s1 hk, if_neg (by decide), h6, if_pos rfl, gd_pos (inbn (by omega) (by decide)), nI_clamp (by omega), if_neg k28, if_neg (by decide), hst2, if_neg (show ¬ nI s = 200 from fun z => by have := (nI_eq (a := s) (b := 200) (by omega) (by decide)).mp z; omega), show nI s + fX10_bit 1 = nI (s + 1) from nI_1 s, nI_1]
  have refA : fX11_lives_L32 (nI k, M) = (fX11_does (nI (670 + 6 * k)) (si M 32 (nI (s + 1)))).bind (fun r27 => if r27.1 = (0 : Int32) then fX11_lives_J111 (nI k, M) (nI (670 + 6 * k)) (1 : Int32) (ga M 34 0) (0 : Int32) r27.2 else fX11_lives_J111 (nI k, M) (nI (670 + 6 * k)) (0 : Int32) (ga M 34 0) (0 : Int32) r27.2) := by
    unfold fX11_lives_L32 lt_
    dsimp only
    rw [c33, c00, s3, if_neg (nI_ge hk (by omega)), hst, if_neg (show ¬ nI s = 200 from fun z => by have := (nI_eq (a := s) (b := 200) (by omega) (by decide)).mp z; omega), st_i0, gd_pos (inbn (by omega) (by decide)), nI_clamp (by omega), nI_1, show ga (si M 32 (nI (s + 1))) 0 (670 + 6 * k) = kmap (ga z 0 k) from hkm, if_neg km26]
    rfl
  rw [clsA, refA]
  -- what follows when the step at k is no loop, and the reference stands at T
  have J : ∀ (T : Rc) (v : Bool) (K : Int32), ga T 0 (670 + 6 * k) = K → ¬ K = 24 → (if b1 v = (0 : Int32) then fX11_lives_J111 (nI k, M) (nI (670 + 6 * k)) (1 : Int32) (ga M 34 0) (0 : Int32) T else fX11_lives_J111 (nI k, M) (nI (670 + 6 * k)) (0 : Int32) (ga M 34 0) (0 : Int32) T) = fX11_lives_J140 (nI k, M) (nI (670 + 6 * k)) (ms T (ga M 34 0) v) := by
    intro T v K hK h24
    unfold fX11_lives_J111 lt_
    have g1 : ∀ x : Nat → Int32, ga (sa T 34 x) 0 (670 + 6 * k) = K := fun x => hK
    simp only [gd_pos (show inb 0 4 = true by decide), gd_pos (inbn (k := 670 + 6 * k) (n := 6240) (by omega) (by decide)), nI_clamp (show 670 + 6 * k < 2 ^ 31 by omega), g1, if_neg h24, c00]
    cases v <;> rfl
  have J140 : ∀ (T : Rc) (K : Int32), ga T 0 (670 + 6 * k) = K → K < 2300 → fX11_lives_J140 (nI k, M) (nI (670 + 6 * k)) T = (fX11_behindEnds (nI (k + 1)) T).bind (fun r => some (.inl (r.1, r.2))) := by
    intro T K hK hlt
    unfold fX11_lives_J140 fX11_lives_J174
    rw [gd_pos (inbn (by omega) (by decide)), nI_clamp (by omega), hK, if_pos hlt]
    dsimp only
    rw [nI_1]
  have inv1 : ∀ (lf' M' : Rc), ga lf' 1 = ga lf 1 → ga M' 33 = ga M 33 → ¬ ga z 0 k = 27 → INV z n lf' M' (k + 1) := by
    intro lf' M' e1 e2 hne o p q1 q2 q3 q4 q5 q6
    rw [e1, e2]
    exact hi o p q1 q2 q3 q4 (by
      rcases Nat.lt_or_ge o k with w | w
      · exact w
      · exact absurd (by rw [show k = o by omega]; exact q3) hne) (by omega)
  have hz1 : ZR z b (si M 32 (nI (s + 1))) 0 n k := hzk
  have h25' := LR_25 hL1 h25 h26
  by_cases ho : opn z k
  · by_cases c27 : ga z 0 k = 27
    · -- loop
      obtain ⟨zn, hn⟩ : ga M 0 (670 + 6 * k + 1) = ga z 3 k ∧ nr (ga z 3 k) 1 99 := by
        have zk := hzk.2.1
        unfold ZN at zk
        simp only [Nat.zero_add] at zk
        rcases zk with ⟨e', -⟩ | e' | e' | e' | ⟨e', -⟩ | ⟨e', -⟩ | ⟨e', -⟩ | ⟨e', -⟩ | ⟨e', -⟩ | ⟨e', -⟩ | ⟨e', -⟩ | ⟨-, zn, hn⟩ | e' | e'
        all_goals first | exact ⟨zn, hn⟩ | (rw [c27] at e'; exact absurd e' (by decide))
      obtain ⟨c, hc1, hc2⟩ : ∃ c : Nat, c ≤ 98 ∧ ga z 3 k = nI (c + 1) := ⟨(ga z 3 k).toInt.toNat - 1, by unfold nr at hn; omega, by
        have := i_nat (x := ga z 3 k) (by unfold nr at hn; omega)
        rw [show (ga z 3 k).toInt.toNat - 1 + 1 = (ga z 3 k).toInt.toNat by unfold nr at hn; omega]; exact this⟩
      have hkm24 : ga M 0 (670 + 6 * k) = 24 := by rw [hkm, c27]; rfl
      rw [does_def (M := si M 32 (nI (s + 1))) (by omega) (Or.inl hkm24)]
      unfold fX3_follow lt_
      rw [gd_pos (inbn (by omega) (by decide)), nI_clamp (by omega), c27, if_neg (by decide), if_neg (by decide), if_neg (by decide), if_pos rfl, hc2]
      dsimp only [Option.bind]
      rw [if_neg (by decide), nI_1]
      have hms := LR_ms hL1
      refine ⟨k + 1, sa (si lf 2 (nI (s + 1))) 1 (upd (ga lf 1) k (nI (c + 1))), dr, b, sa (ms (si M 32 (nI (s + 1))) (ga M 34 0) true) 33 (upd (ga M 33) k (nI c)), rfl, ?_, ?_, ?_, rfl, by omega⟩
      · unfold fX11_lives_J111 lt_
        have i1 : nI (670 + 6 * k) + (1 : Int32) = nI (670 + 6 * k + 1) := nI_1 _
        have g1 : ∀ x : Nat → Int32, ga (sa (si M 32 (nI (s + 1))) 34 x) 0 (670 + 6 * k) = 24 := fun x => hkm24
        have g2 : ∀ x : Nat → Int32, ga (sa (si M 32 (nI (s + 1))) 34 x) 0 (670 + 6 * k + 1) = nI (c + 1) := fun x => zn.trans hc2
        simp only [i1, gd_pos (show inb 0 4 = true by decide), gd_pos (inbn (k := k) (n := 80) (by omega) (by decide)), gd_pos (inbn (k := 670 + 6 * k) (n := 6240) (by omega) (by decide)), gd_pos (inbn (k := 670 + 6 * k + 1) (n := 6240) (by omega) (by decide)), nI_clamp (show 670 + 6 * k < 2 ^ 31 by omega), nI_clamp (show 670 + 6 * k + 1 < 2 ^ 31 by omega), nI_clamp (show k < 2 ^ 31 by omega), g1, g2, c00, nI_pred, if_true]
        exact J140 _ 24 hkm24 (by decide)
      · obtain ⟨a1, a2, a3, a4, a5, a6, a7⟩ := hms
        exact ⟨a1, a2, a3, a4, a5, fx_trans a6 (fx_33 _ _), a7⟩
      · intro o p q1 q2 q3 q4 q5 q6
        by_cases w : o = k
        · subst w
          exact ⟨c, hc1, by rw [ga_sa0]; exact upd_eq _ _ _, by rw [ga_sa0]; exact upd_eq _ _ _⟩
        · obtain ⟨c', d1, d2, d3⟩ := hi o p q1 q2 q3 q4 (by omega) (by omega)
          exact ⟨c', d1, by rw [ga_sa0, upd_ne _ _ w]; exact d2, by rw [ga_sa0, upd_ne _ _ w]; exact d3⟩
    · -- when
      have hw : ga z 0 k = 24 ∨ ga z 0 k = 25 ∨ ga z 0 k = 26 := by
        rcases ho with w | w | w | w
        · exact Or.inl w
        · exact Or.inr (Or.inl w)
        · exact Or.inr (Or.inr w)
        · exact absurd w c27
      have hK : ga M 0 (670 + 6 * k) = 2327 ∨ ga M 0 (670 + 6 * k) = 2328 ∨ ga M 0 (670 + 6 * k) = 2329 := by
        rw [hkm]
        rcases hw with w | w | w
        · left; rw [w]; rfl
        · right; left; rw [w]; rfl
        · right; right; rw [w]; rfl
      have hms := LR_ms hL1
      obtain ⟨p, p1, p2, p3, p4, p5, p6⟩ := opn_at hzk ho
      have hR2 : RB b (ms (si M 32 (nI (s + 1))) (ga M 34 0) true) 0 nm := hms.1
      have hz2 : ZR z b (ms (si M 32 (nI (s + 1))) (ga M 34 0) true) 0 n k := hzk
      obtain ⟨v, v1, v2⟩ := holds_eq hR2 h25'.1 h25'.2 (by omega) hz2 hw
      rw [does_def (M := si M 32 (nI (s + 1))) (by omega) (Or.inr hK)]
      dsimp only [Option.bind]
      have jj := J (si M 32 (nI (s + 1))) true (ga M 0 (670 + 6 * k)) rfl (by rcases hK with w | w | w <;> (rw [w]; decide))
      rw [show b1 true = 1 from rfl] at jj
      rw [jj]
      have foll : fX3_follow (nI k) (si lf 2 (nI (s + 1))) dr b z = some (if v = true then nI (k + 1) else nI (p + 1), si lf 2 (nI (s + 1)), dr, b) := by
        unfold fX3_follow
        rw [gd_pos (inbn (by omega) (by decide)), nI_clamp (by omega), v1, p3]
        dsimp only [Option.bind]
        rw [nI_1, nI_1]
        rcases hw with w | w | w
        · rw [w, if_pos rfl]
          cases v <;> rfl
        · rw [w, if_neg (by decide), if_pos rfl]
          cases v <;> rfl
        · rw [w, if_neg (by decide), if_neg (by decide), if_pos rfl]
          cases v <;> rfl
      rw [foll]
      dsimp only
      have r140 : fX11_lives_J140 (nI k, M) (nI (670 + 6 * k)) (ms (si M 32 (nI (s + 1))) (ga M 34 0) true) = (fX11_behindEnds (if v = true then nI (k + 1) else nI (p + 1)) (ms (si M 32 (nI (s + 1))) (ga M 34 0) true)).bind (fun r => some (.inl (r.1, r.2))) := by
        unfold fX11_lives_J140 fX11_lives_J174
        have g1 : ga (ms (si M 32 (nI (s + 1))) (ga M 34 0) true) 0 (670 + 6 * k) = ga M 0 (670 + 6 * k) := rfl
        have g4 : ga (ms (si M 32 (nI (s + 1))) (ga M 34 0) true) 0 (670 + 6 * k + 4) = nI p := p6
        rw [gd_pos (inbn (by omega) (by decide)), nI_clamp (by omega), g1, if_neg (by rcases hK with w | w | w <;> (rw [w]; decide)), v2]
        dsimp only [Option.bind]
        rw [show nI (670 + 6 * k) + (4 : Int32) = nI (670 + 6 * k + 4) from nI_add _ 4, gd_pos (inbn (by omega) (by decide)), nI_clamp (by omega), g4, nI_1, nI_1]
        cases v <;> rfl
      rw [r140]
      cases v with
      | true =>
        exact ⟨k + 1, _, dr, b, _, rfl, rfl, hms, inv1 _ _ rfl rfl c27, rfl, by omega⟩
      | false =>
        refine ⟨p + 1, _, dr, b, _, rfl, rfl, hms, ?_, rfl, by omega⟩
        intro o q q1 q2 q3 q4 q5 q6
        have hlt : o < k := by
          rcases Nat.lt_or_ge o k with w | w
          · exact w
          · have w1 : ¬ o = k := fun w => c27 (by rw [← w]; exact q3)
            have w2 : ¬ o = p := fun w => by rw [w, p4] at q3; exact absurd q3 (by decide)
            have := s5 k o p q hk q1 ho (Or.inr (Or.inr (Or.inr q3))) p3 q4 (by omega) (by omega) p2 q2
            omega
        exact hi o q q1 q2 q3 q4 hlt (by omega)
  · -- a step that does something
    have c27 : ¬ ga z 0 k = 27 := fun w => ho (Or.inr (Or.inr (Or.inr w)))
    obtain ⟨lf', dr', b', T, v, d1, d2, d3, d4, d5, d6⟩ := does_eq hL1 h25'.1 h25'.2 (by omega) hz1 ho k28 k29
    rw [d2]
    dsimp only [Option.bind]
    have foll : fX3_follow (nI k) (si lf 2 (nI (s + 1))) dr b z = some (nI (k + 1), lf', dr', b') := by
      unfold fX3_follow
      rw [gd_pos (inbn (by omega) (by decide)), nI_clamp (by omega), if_neg (fun w => ho (Or.inl w)), if_neg (fun w => ho (Or.inr (Or.inl w))), if_neg (fun w => ho (Or.inr (Or.inr (Or.inl w)))), if_neg c27, if_neg k28, if_neg k29, d1, nI_1]
      rfl
    rw [foll]
    dsimp only
    have hkT : ga T 0 (670 + 6 * k) = kmap (ga z 0 k) := by
      have e1 := d3.2.2.2.2.1 (670 + 6 * k) (Or.inr (by omega))
      have e2 := h.2.2.2.2.1 (670 + 6 * k) (Or.inr (by omega))
      have e3 : ga (ms T (ga M 34 0) v) 0 (670 + 6 * k) = ga T 0 (670 + 6 * k) := rfl
      rw [← hkm, ← e3]
      exact e1.trans e2.symm
    have kk : ¬ kmap (ga z 0 k) = 24 ∧ kmap (ga z 0 k) < 2300 := by
      rcases kind_in hzk with w | w | w | w | w | w | w | w | w | w | w | w | w | w
      all_goals first | exact absurd w k28 | exact absurd w k29 | exact absurd w c27 | exact absurd (Or.inl w) ho | exact absurd (Or.inr (Or.inl w)) ho | exact absurd (Or.inr (Or.inr (Or.inl w))) ho | (rw [w]; decide)
    rw [J T v _ hkT kk.1, J140 (ms T (ga M 34 0) v) _ hkT kk.2]
    refine ⟨k + 1, lf', dr', b', ms T (ga M 34 0) v, rfl, rfl, d3, inv1 _ _ d4 ?_ c27, ?_, by omega⟩
    · show ga T 33 = _
      exact d5
    · exact d3.2.2.2.1.1.symm.trans (d6.trans rfl)
