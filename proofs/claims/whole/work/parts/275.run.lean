/-! ===== (B) a season is lived: loops, ends, the whole run ===== -/
/-- the loops that are open at a place: one round more is counted by the class -/
def INV (z : Rc) (n : Nat) (lf M : Rc) (pos : Nat) : Prop := ∀ o p, o < n → p < n → ga z 0 o = 27 → ga z 4 o = nI p → o < pos → pos ≤ p → ∃ c : Nat, c ≤ 98 ∧ ga M 33 o = nI c ∧ ga lf 1 o = nI (c + 1)
/-- the season, over the bench's changes -/
def SZ (z b M : Rc) (n : Nat) : Prop := n ≤ 60 ∧ gi z 5 = nI n ∧ ga M 0 3 = nI n ∧ (∀ k, k < n → ZR z b M 0 n k) ∧ ZI z n
theorem LR_SZ {M0 lf dr b M z b0 : Rc} {nm n : Nat} (h : LR M0 (cF b0) nm lf dr b M) (hs : SZ z b0 M0 n) : SZ z b M n := by
  obtain ⟨s1, s2, s3, s4, s5⟩ := hs
  have hz : RZ z b0 M0 0 ∨ True := Or.inr trivial
  refine ⟨s1, s2, (h.2.2.2.2.1 3 (Or.inl rfl)).trans s3, fun k hk => ?_, s5⟩
  obtain ⟨r1, r2, r3, r4⟩ := s4 k hk
  have e0 := h.2.2.2.2.1 (0 + 670 + 6 * k) (Or.inr (by omega))
  have e1 := h.2.2.2.2.1 (0 + 670 + 6 * k + 1) (Or.inr (by omega))
  have e2 := h.2.2.2.2.1 (0 + 670 + 6 * k + 2) (Or.inr (by omega))
  have e4 := h.2.2.2.2.1 (0 + 670 + 6 * k + 4) (Or.inr (by omega))
  have e5 := h.2.2.2.2.1 (0 + 670 + 6 * k + 5) (Or.inr (by omega))
  unfold ZR
  unfold ZN ZF ZP ZG ff at *
  rw [e0, e1, e2, e4, e5, h.2.1]
  exact ⟨r1, r2, r3, r4⟩
theorem opn_at {z b M : Rc} {n k : Nat} (hz : ZR z b M 0 n k) (ho : opn z k) : ∃ p, k < p ∧ p < n ∧ ga z 4 k = nI p ∧ ga z 0 p = 28 ∧ ga z 4 p = nI k ∧ ga M 0 (670 + 6 * k + 4) = nI p := by
  obtain ⟨-, -, h3, -⟩ := hz
  obtain ⟨x1, p, x2, x3, x4, x5, x6⟩ := h3 ho
  unfold ZP at x1
  rw [Nat.zero_add] at x1
  exact ⟨p, x2, x3, x4, x5, x6, x1.trans x4⟩
theorem end_at {z b M : Rc} {n k : Nat} (hz : ZR z b M 0 n k) (ho : ga z 0 k = 28) : ∃ p, p < k ∧ opn z p ∧ ga z 4 k = nI p ∧ ga z 4 p = nI k ∧ ga M 0 (670 + 6 * k + 4) = nI p := by
  obtain ⟨-, -, -, h4⟩ := hz
  obtain ⟨x1, p, x2, x3, x4, x5⟩ := h4 ho
  unfold ZP at x1
  rw [Nat.zero_add] at x1
  exact ⟨p, x2, x3, x4, x5, x1.trans x4⟩
theorem kind_at {z b M : Rc} {n k : Nat} (hz : ZR z b M 0 n k) : ga M 0 (670 + 6 * k) = kmap (ga z 0 k) := by
  have := hz.1
  rw [Nat.zero_add] at this
  exact this
theorem kind_in {z b M : Rc} {n k : Nat} (hz : ZR z b M 0 n k) : ga z 0 k = 14 ∨ ga z 0 k = 15 ∨ ga z 0 k = 16 ∨ ga z 0 k = 17 ∨ ga z 0 k = 18 ∨ ga z 0 k = 20 ∨ ga z 0 k = 21 ∨ ga z 0 k = 22 ∨ ga z 0 k = 24 ∨ ga z 0 k = 25 ∨ ga z 0 k = 26 ∨ ga z 0 k = 27 ∨ ga z 0 k = 28 ∨ ga z 0 k = 29 := by
  rcases hz.2.1 with ⟨e, -⟩ | e | e | e | ⟨e, -⟩ | ⟨e, -⟩ | ⟨e, -⟩ | ⟨e, -⟩ | ⟨e, -⟩ | ⟨e, -⟩ | ⟨e, -⟩ | ⟨e, -⟩ | e | e
  all_goals (rw [e]; decide)
/-- a place that the season has, or hasn't -/
theorem has_place {z : Rc} {n k : Nat} (h5 : gi z 5 = nI n) (hn : n ≤ 60) (hk : k < n) : fX5_hasPlace (nI k) z = 1 := by
  unfold fX5_hasPlace
  rw [h5, if_neg (show ¬ nI k < 0 from nI_nlt (b := 0) (Nat.zero_le _) (by omega)), if_neg (nI_ge hk (by omega))]
theorem no_place {z : Rc} {n k : Nat} (h5 : gi z 5 = nI n) (hk : n ≤ k) (h : k < 2 ^ 31) : fX5_hasPlace (nI k) z = 0 := by
  unfold fX5_hasPlace
  rw [h5, if_neg (show ¬ nI k < 0 from nI_nlt (b := 0) (Nat.zero_le _) h), if_pos (nI_le hk h)]
/-- one end, on both sides: where to, what becomes of the loop's count -/
theorem end_step {M0 lf dr b M z b0 : Rc} {nm n e tn : Nat} (h : LR M0 (cF b0) nm lf dr b M) (hs : SZ z b0 M0 n) (hi : INV z n lf M e) (he : e < n) (hk : ga z 0 e = 28) (ht : tn < 1000000) : ∃ (e' : Nat) (lf' M' : Rc), fX3_run_L39 z (nI e, nI tn, lf, dr, b) = some (.inl (nI e', nI (tn + 1), lf', dr, b)) ∧ fX11_behindEnds_L2 (nI e, M) = some (.inl (nI e', M')) ∧ LR M0 (cF b0) nm lf' dr b M' ∧ INV z n lf' M' e' ∧ gi M' 32 = gi M 32 ∧ e' ≤ n ∧ ((e' = e + 1) ∨ (∃ o, e' = o + 1 ∧ o + 1 < e ∧ (o + 1 < n → ¬ ga z 0 (o + 1) = 28)) ∨ (∃ o c, e = o + 1 ∧ e' = e ∧ ga z 0 o = 27 ∧ ga M 33 o = nI (c + 1) ∧ ga M' 33 o = nI c ∧ c ≤ 98)) := by
  obtain ⟨s1, s2, s3, s4, s5⟩ := LR_SZ h hs
  have hze := s4 e he
  obtain ⟨o, o1, o2, o3, o4, o5⟩ := end_at hze hk
  have hzo := s4 o (by omega)
  have hkm := kind_at hze
  have hko := kind_at hzo
  obtain ⟨h1, h2, h3, ⟨h4, h5, h6, h7, h8, h9⟩, h10, h11, h12⟩ := h
  have c33 : (3 : Int32).toNatClampNeg = 3 := rfl
  have clsA : fX3_run_L39 z (nI e, nI tn, lf, dr, b) = (fX3_goRound (nI e) lf z).bind (fun r => some (.inl (r.1, nI (tn + 1), r.2, dr, b))) := by
    unfold fX3_run_L39 fX3_run_J79 fX3_run_J104 fX3_follow lt_
    dsimp only
    rw [if_neg (show ¬ (1000000 : Int32) ≤ nI tn from nI_ge (b := 1000000) ht (by decide)), has_place s2 s1 he, if_neg (by decide), h8, if_pos rfl, gd_pos (inbn (by omega) (by decide)), nI_clamp (by omega), hk, if_pos rfl, if_pos rfl, gd_pos (inbn (by omega) (by decide)), if_neg (by decide), if_neg (by decide), if_neg (by decide), if_neg (by decide), if_pos rfl, show gi lf 2 + fX10_bit 0 = gi lf 2 from Int32.add_zero _, si_id lf 2 rfl, nI_1]
    cases fX3_goRound (nI e) lf z <;> rfl
  rw [clsA]
  unfold fX3_goRound fX11_behindEnds_L2 fX11_behindEnds_J77 fX11_behindEnds_J78 fX11_behindEnds_J97 lt_
  dsimp only
  rw [c33, s3, if_neg (nI_ge he (by omega)), gd_pos (inbn (by omega) (by decide)), nI_clamp (by omega), o3, has_place s2 s1 (show o < n by omega), if_neg (by decide), gd_pos (inbn (by omega) (by decide)), nI_clamp (by omega), st_i0, gd_pos (inbn (by omega) (by decide)), nI_clamp (by omega), hkm, hk, if_pos (show kmap 28 = 25 from rfl), show nI (670 + 6 * e) + (4 : Int32) = nI (670 + 6 * e + 4) from nI_add _ 4, gd_pos (inbn (by omega) (by decide)), nI_clamp (by omega), o5, st_i0, gd_pos (inbn (by omega) (by decide)), nI_clamp (by omega), hko, gd_pos (inbn (by omega) (by decide)), gd_pos (inbn (by omega) (by decide)), gd_pos (inbn (by omega) (by decide)), nI_clamp (by omega), nI_1, nI_1]
  by_cases ck : ga z 0 o = 27
  · -- a loop
    obtain ⟨c, c1, c2, c3⟩ := hi o e (by omega) he ck o4 o1 (Nat.le_refl _)
    rw [ck, if_pos rfl, if_pos (show kmap 27 = 24 from rfl), c2, c3, nI_pred]
    have lfx : ga (sa lf 1 (upd (ga lf 1) o (nI c))) 1 o = nI c := by rw [ga_sa0]; exact upd_eq _ _ _
    rw [lfx]
    rcases Nat.eq_zero_or_pos c with rfl | hc0
    · -- the last round
      rw [if_pos (show nI 0 ≤ 0 by decide), if_pos (show nI 0 ≤ 0 by decide), if_pos rfl, if_pos rfl]
      have e0 : sa M 33 (upd (ga M 33) o (nI 0 - 0)) = M := by
        rw [show nI 0 - 0 = nI 0 from rfl, upd_id _ _ c2, sa_id]
      rw [e0]
      refine ⟨e + 1, sa lf 1 (upd (ga lf 1) o (nI 0)), M, rfl, rfl, ⟨h1, h2, h3, ⟨h4, h5, h6, h7, h8, h9⟩, h10, h11, h12⟩, ?_, rfl, by omega, Or.inl rfl⟩
      intro o' p' q1 q2 q3 q4 q5 q6
      have hne : ¬ o' = o := fun w => by
        subst w
        have := (nI_eq (by omega) (by omega)).mp (o4.symm.trans q4)
        omega
      have hne2 : ¬ o' = e := fun w => by rw [w, hk] at q3; exact absurd q3 (by decide)
      obtain ⟨c', d1, d2, d3⟩ := hi o' p' q1 q2 q3 q4 (by omega) (by omega)
      exact ⟨c', d1, d2, by rw [ga_sa0, upd_ne _ _ hne]; exact d3⟩
    · -- once more
      obtain ⟨c', rfl⟩ : ∃ c', c = c' + 1 := ⟨c - 1, by omega⟩
      rw [if_neg (nI_nle (by omega) (by omega)), if_neg (nI_nle (by omega) (by omega)), if_neg (by decide), if_neg (by decide), nI_pred, gd_pos (inbn (k := o) (n := 80) (by omega) (by decide)), gd_pos (inbn (k := o) (n := 80) (by omega) (by decide))]
      refine ⟨o + 1, sa lf 1 (upd (ga lf 1) o (nI (c' + 1))), sa M 33 (upd (ga M 33) o (nI c')), rfl, rfl, ⟨h1, h2, h3, ⟨h4, h5, h6, h7, h8, h9⟩, h10, fx_trans h11 (fx_33 _ _), h12⟩, ?_, rfl, by omega, ?_⟩
      · intro o' p' q1 q2 q3 q4 q5 q6
        by_cases w : o' = o
        · subst w
          exact ⟨c', by omega, by rw [ga_sa0]; exact upd_eq _ _ _, by rw [ga_sa0]; exact upd_eq _ _ _⟩
        · have hp : e < p' := s5 o' o p' e q1 (by omega) (Or.inr (Or.inr (Or.inr q3))) o2 q4 o4 (by omega) (by omega) q2 he
          obtain ⟨c'', d1, d2, d3⟩ := hi o' p' q1 q2 q3 q4 (by omega) (by omega)
          exact ⟨c'', d1, by rw [ga_sa0, upd_ne _ _ w]; exact d2, by rw [ga_sa0, upd_ne _ _ w]; exact d3⟩
      · by_cases w : o + 1 = e
        · exact Or.inr (Or.inr ⟨o, c', w.symm, w, ck, c2, by rw [ga_sa0]; exact upd_eq _ _ _, by omega⟩)
        · refine Or.inr (Or.inl ⟨o, rfl, by omega, fun hn z28 => ?_⟩)
          obtain ⟨q, q1, q2, q3, q4, -⟩ := end_at (s4 (o + 1) hn) z28
          by_cases w2 : q = o
          · subst w2
            have := (nI_eq (by omega) (by omega)).mp (o4.symm.trans q4)
            omega
          · have := s5 q o (o + 1) e (by omega) (by omega) q2 o2 q4 o4 (by omega) (by omega) hn he
            omega
  · -- a when
    have kne : ¬ kmap (ga z 0 o) = 24 := by
      rcases o2 with w | w | w | w
      · rw [w]; decide
      · rw [w]; decide
      · rw [w]; decide
      · exact absurd w ck
    rw [if_neg ck, if_neg kne, if_pos rfl, if_pos rfl]
    have e0 : sa M 33 (upd (ga M 33) o (ga M 33 o - 0)) = M := by
      rw [show ga M 33 o - 0 = ga M 33 o from by apply i_ext; have := Int32.toInt_lt (ga M 33 o); have := Int32.le_toInt (ga M 33 o); rw [i_sub (by rw [i_0]; omega) (by rw [i_0]; omega), i_0]; omega, upd_id _ _ rfl, sa_id]
    rw [e0]
    refine ⟨e + 1, lf, M, rfl, rfl, ⟨h1, h2, h3, ⟨h4, h5, h6, h7, h8, h9⟩, h10, h11, h12⟩, ?_, rfl, by omega, Or.inl rfl⟩
    intro o' p' q1 q2 q3 q4 q5 q6
    have hne2 : ¬ o' = e := fun w => by rw [w, hk] at q3; exact absurd q3 (by decide)
    exact hi o' p' q1 q2 q3 q4 (by omega) (by omega)
/-- the ends that are come to, one behind the other -/
theorem chain {M0 dr b z b0 : Rc} {nm n : Nat} (hs : SZ z b0 M0 n) : ∀ (m e tn : Nat) (lf M : Rc), LR M0 (cF b0) nm lf dr b M → INV z n lf M e → e ≤ n → ((n - e) + (if e < n ∧ ga z 0 e = 28 ∧ 1 ≤ e ∧ ga z 0 (e - 1) = 27 then (ga M 33 (e - 1)).toInt.toNat else 0) ≤ m) → tn + m < 1000000 → ∃ (e' j : Nat) (lf' M' : Rc), (∀ r, loopF (fX3_run_L39 z) (nI e', nI (tn + j), lf', dr, b) = some r → loopF (fX3_run_L39 z) (nI e, nI tn, lf, dr, b) = some r) ∧ fX11_behindEnds (nI e) M = some (nI e', M') ∧ LR M0 (cF b0) nm lf' dr b M' ∧ INV z n lf' M' e' ∧ gi M' 32 = gi M 32 ∧ e' ≤ n ∧ (e' < n → ¬ ga z 0 e' = 28) ∧ j ≤ m := by
  have c33 : (3 : Int32).toNatClampNeg = 3 := rfl
  have stop : ∀ (e tn m : Nat) (lf M : Rc), LR M0 (cF b0) nm lf dr b M → INV z n lf M e → e ≤ n → (e < n → ¬ ga z 0 e = 28) → ∃ (e' j : Nat) (lf' M' : Rc), (∀ r, loopF (fX3_run_L39 z) (nI e', nI (tn + j), lf', dr, b) = some r → loopF (fX3_run_L39 z) (nI e, nI tn, lf, dr, b) = some r) ∧ fX11_behindEnds (nI e) M = some (nI e', M') ∧ LR M0 (cF b0) nm lf' dr b M' ∧ INV z n lf' M' e' ∧ gi M' 32 = gi M 32 ∧ e' ≤ n ∧ (e' < n → ¬ ga z 0 e' = 28) ∧ j ≤ m := by
    intro e tn m lf M h hi hen hk
    obtain ⟨s1, s2, s3, s4, s5⟩ := LR_SZ h hs
    have l : fX11_behindEnds_L2 (nI e, M) = some (.inr (nI e, M)) := by
      unfold fX11_behindEnds_L2
      dsimp only
      rw [c33, s3]
      rcases Nat.lt_or_ge e n with q | q
      · have hze := s4 e q
        have kne : ¬ kmap (ga z 0 e) = 25 := by
          have hk' := hk q
          rcases kind_in hze with w | w | w | w | w | w | w | w | w | w | w | w | w | w
          all_goals first | exact absurd w hk' | (rw [w]; decide)
        rw [if_neg (nI_ge q (by omega)), st_i0, gd_pos (inbn (by omega) (by decide)), nI_clamp (by omega), kind_at hze, if_neg kne]
      · rw [if_pos (nI_le q (by omega))]
    refine ⟨e, 0, lf, M, fun r hr => hr, ?_, h, hi, rfl, hen, hk, Nat.zero_le _⟩
    unfold fX11_behindEnds
    rw [loopF_stop l]; rfl
  intro m
  induction m with
  | zero =>
    intro e tn lf M h hi hen hm ht
    exact stop e tn 0 lf M h hi hen (fun q => by omega)
  | succ m ih =>
    intro e tn lf M h hi hen hm ht
    by_cases hk : e < n ∧ ga z 0 e = 28
    · obtain ⟨he, hk⟩ := hk
      obtain ⟨e1, lf1, M1, a1, a2, a3, a4, a5, a6, a7⟩ := end_step h hs hi he hk (by omega : tn < 1000000)
      have next : ((n - e1) + (if e1 < n ∧ ga z 0 e1 = 28 ∧ 1 ≤ e1 ∧ ga z 0 (e1 - 1) = 27 then (ga M1 33 (e1 - 1)).toInt.toNat else 0) ≤ m) ∨ (e1 < n → ¬ ga z 0 e1 = 28) := by
        rcases a7 with rfl | ⟨o, rfl, o1, o2⟩ | ⟨o, c, rfl, rfl, o1, o2, o3, o4⟩
        · left
          rw [if_neg (fun w => by
            have := w.2.2.2
            rw [show e + 1 - 1 = e by omega, hk] at this
            exact absurd this (by decide))]
          omega
        · right; exact o2
        · left
          rw [show o + 1 - 1 = o by omega] at hm ⊢
          rw [if_pos ⟨he, hk, by omega, o1⟩, o2, nI_toInt (by omega)] at hm
          rw [if_pos ⟨he, hk, by omega, o1⟩, o3, nI_toInt (by omega)]
          omega
      have rest : ∃ (e' j : Nat) (lf' M' : Rc), (∀ r, loopF (fX3_run_L39 z) (nI e', nI (tn + 1 + j), lf', dr, b) = some r → loopF (fX3_run_L39 z) (nI e1, nI (tn + 1), lf1, dr, b) = some r) ∧ fX11_behindEnds (nI e1) M1 = some (nI e', M') ∧ LR M0 (cF b0) nm lf' dr b M' ∧ INV z n lf' M' e' ∧ gi M' 32 = gi M1 32 ∧ e' ≤ n ∧ (e' < n → ¬ ga z 0 e' = 28) ∧ j ≤ m := by
        rcases next with q | q
        · exact ih e1 (tn + 1) lf1 M1 a3 a4 a6 q (by omega)
        · exact stop e1 (tn + 1) m lf1 M1 a3 a4 a6 q
      obtain ⟨e', j, lf', M', b1, b2, b3, b4, b5, b6, b7, b8⟩ := rest
      refine ⟨e', j + 1, lf', M', fun r hr => ?_, ?_, b3, b4, b5.trans a5, b6, b7, by omega⟩
      · rw [show tn + (j + 1) = tn + 1 + j by omega] at hr
        exact loopF_step a1 (b1 r hr)
      · unfold fX11_behindEnds at b2 ⊢
        obtain ⟨y, y1, y2⟩ := bd_elim b2
        rw [loopF_step a2 y1]
        exact y2
    · exact stop e tn (m + 1) lf M h hi hen (fun q w => hk ⟨q, w⟩)
