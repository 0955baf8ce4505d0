/-! ===== (B) a text is begun ===== -/
theorem nar_id {x : Int32} (h1 : -128 ≤ x.toInt) (h2 : x.toInt < 128) : vp_nar .byte x = x := by
  apply i_ext
  show (x.toInt8.toInt32).toInt = x.toInt
  rw [Int8.toInt_toInt32, Int32.toInt_toInt8]
  exact Int.bmod_eq_of_le (by omega) (by omega)
/-- what beginning a text leaves as it was -/
def FB (M M' : Rc) : Prop := (∀ j, ¬ (10 ≤ j ∧ j ≤ 15) → ¬ (17 ≤ j ∧ j ≤ 19) → gi M' j = gi M j) ∧ (∀ j, gl M' j = gl M j) ∧ (∀ j, ¬ j = 9 → ga M' j = ga M j) ∧ (∀ j, gb M' j = gb M j)
theorem copy_loop {M : Rc} {N : Nat} (hN : N ≤ 900) (hb : ∀ k, -128 ≤ (ga M 8 k).toInt ∧ (ga M 8 k).toInt < 128) : ∃ M', loopF (fX11_begins_L26 (nI N)) ((0 : Int32), si M 11 (nI N)) = some M' ∧ gi M' 11 = nI N ∧ (∀ j, ¬ j = 11 → gi M' j = gi M j) ∧ (∀ j, gl M' j = gl M j) ∧ (∀ j, ¬ j = 9 → ga M' j = ga M j) ∧ (∀ j, gb M' j = gb M j) ∧ ∀ k, k < N → ga M' 9 k = ga M 8 k := by
  refine loop_one (b := fX11_begins_L26 (nI N)) (fun d s => s.1 = nI d ∧ gi s.2 11 = nI N ∧ (∀ j, ¬ j = 11 → gi s.2 j = gi M j) ∧ (∀ j, gl s.2 j = gl M j) ∧ (∀ j, ¬ j = 9 → ga s.2 j = ga M j) ∧ (∀ j, gb s.2 j = gb M j) ∧ ∀ k, k < d → ga s.2 9 k = ga M 8 k) (fun M' => gi M' 11 = nI N ∧ (∀ j, ¬ j = 11 → gi M' j = gi M j) ∧ (∀ j, gl M' j = gl M j) ∧ (∀ j, ¬ j = 9 → ga M' j = ga M j) ∧ (∀ j, gb M' j = gb M j) ∧ ∀ k, k < N → ga M' 9 k = ga M 8 k) N (fun d s hd hs => ?_) (fun s hs => ?_) N 0 _ (by omega) ⟨rfl, rfl, fun j hj => by rw [gi_si, if_neg hj], fun _ => rfl, fun _ _ => rfl, fun _ => rfl, fun k hk => by omega⟩
  · left
    obtain ⟨x, s⟩ := s
    obtain ⟨e1, e2, e3, e4, e5, e6, e7⟩ := hs
    dsimp only at *
    refine ⟨(nI (d + 1), sa s 9 (upd (ga s 9) d (ga M 8 d))), ?_, rfl, e2, e3, e4, fun j hj => by rw [ga_sa, if_neg hj]; exact e5 j hj, e6, fun k hk => ?_⟩
    · unfold fX11_begins_L26 lt_
      dsimp only
      rw [e1, if_neg (nI_ge (b := N) hd (by omega)), gd_pos (inbn (by omega) (by decide)), nI_clamp (by omega), e5 8 (by decide), nar_id (hb d).1 (hb d).2, nI_succ d]
    · show upd (ga s 9) d (ga M 8 d) k = _
      by_cases c : k = d
      · rw [c, upd_eq]
      · rw [upd_ne _ _ c]; exact e7 k (by omega)
  · obtain ⟨x, s⟩ := s
    obtain ⟨e1, e2⟩ := hs
    dsimp only at *
    refine ⟨s, ?_, e2⟩
    unfold fX11_begins_L26
    dsimp only
    rw [e1, if_pos (show nI N ≤ nI N from Int32.le_refl _)]
theorem begin_eq {tk M : Rc} (hK : RK tk M) (hW : KWD tk) {N : Nat} (hN : nI N ≤ gi M 10) (h9 : N ≤ 900) : ∃ (tk' M' : Rc) (x : Int32), fX8_begin (nI N) tk = some (x, tk') ∧ fX11_begins (nI N) 900 M = some ((1 : Int32), M') ∧ FB M M' ∧ FK tk tk' ∧ gi M' 10 = 0 ∧ gi M' 19 = 0 ∧ ((x = 1 ∧ ∃ e, (gi M' 12 = 0 ∨ 0 < e) ∧ G (ga tk 0) N e tk' M') ∨ (x = 0 ∧ Y_ tk' M')) := by
  obtain ⟨k0, k2, k2b, k12, k13, kb⟩ := hK
  obtain ⟨M1, l1, l2, l3, l4, l5, l6, l7⟩ := copy_loop (M := M) h9 (by rw [← k0]; exact kb)
  have eN : (nI N).toInt = (N : Int) := nI_toInt (by omega)
  have hT : TX (ga tk 0) N (si (si (si (si tk 3 (nI N)) 5 0) 12 0) 13 (-1)) (si (si (si (si (si M1 10 0) 18 0) 17 (-1)) 14 0) 19 0) := ⟨rfl, rfl, l2, h9, fun k hk => by rw [k0]; exact l7 k hk, kb, hW⟩
  obtain ⟨tk', M', m1, fa, h⟩ := adv_eq hT (e0 := 0) (by omega) rfl rfl
  have hf : FB M M' := by
    refine ⟨fun j h1 h2 => ?_, fun j => (FA_gl fa j).trans (l4 j), fun j hj => (FA_ga fa j).trans (l5 j hj), fun j => (FA_gb fa j).trans (l6 j)⟩
    rw [fa.2 j (by omega), gi_si, if_neg (by omega), gi_si, if_neg (by omega), gi_si, if_neg (by omega), gi_si, if_neg (by omega), gi_si, if_neg (by omega)]
    exact l3 j (by omega)
  have f10 : gi M' 10 = 0 := by rw [fa.2 10 (by omega)]; rfl
  have f19 : gi M' 19 = 0 := by rw [fa.2 19 (by omega)]; rfl
  have f18 : gi M' 18 = 0 := by rw [fa.2 18 (by omega)]; rfl
  have f17 : gi M' 17 = -1 := by rw [fa.2 17 (by omega)]; rfl
  have b1 : fX11_begins (nI N) 900 M = some ((1 : Int32), M') := by
    unfold fX11_begins lt_
    dsimp only
    rw [if_neg (nl0 N (by omega)), if_neg (by rw [i_lt]; rw [i_le] at hN; omega), if_pos (show nI N ≤ 900 from nI_le (b := 900) h9 (by decide)), l1, bs, m1, bs]
  have b2 : fX8_begin (nI N) tk = (fX8_advance (si (si (si (si tk 3 (nI N)) 5 0) 12 0) 13 (-1))).bind (fun r5 => some (r5.1, r5.2)) := rfl
  rcases h with ⟨q1, fc, a, e, ha, hae, htok⟩ | ⟨q1, q2, q3, q4, q5, q6, q7⟩
  · refine ⟨tk', M', 1, by rw [b2, q1, bs], b1, hf, ⟨?_, fc.1, fc.2.1⟩, f10, f19, Or.inl ⟨rfl, e, ?_, TX_frame hT fc fa, ⟨a, htok⟩, ?_, ?_, f18, f17⟩⟩
    · rw [fc.2.2 2 (by omega)]; rfl
    · rcases hae with w | w
      · exact Or.inl w
      · exact Or.inr (by omega)
    · rw [fc.2.2 12 (by omega)]; rfl
    · rw [fc.2.2 13 (by omega)]; rfl
  · exact ⟨tk', M', 0, by rw [b2, q1, bs], b1, hf, ⟨q5, q6, q7⟩, f10, f19, Or.inr ⟨rfl, q2, f18, q4, q3⟩⟩
theorem empty_eq (d : Rc) : ∃ d', fX0_empty d = some d' ∧ gi d' 8 = 0 ∧ gi d' 13 = 0 ∧ gi d' 9 = 0 ∧ gl d' 10 = 0 ∧ gl d' 11 = 0 ∧ gi d' 12 = 0 ∧ ∀ k, k < 64 → ga d' 7 k = 0 := by
  obtain ⟨d', l1, l2⟩ := loop_one (b := fX0_empty_L32) (fun i s => s.1 = nI i ∧ gi s.2 8 = 0 ∧ gi s.2 13 = 0 ∧ gi s.2 9 = 0 ∧ gl s.2 10 = 0 ∧ gl s.2 11 = 0 ∧ gi s.2 12 = 0 ∧ ∀ k, k < i → ga s.2 7 k = 0) (fun d' => gi d' 8 = 0 ∧ gi d' 13 = 0 ∧ gi d' 9 = 0 ∧ gl d' 10 = 0 ∧ gl d' 11 = 0 ∧ gi d' 12 = 0 ∧ ∀ k, k < 64 → ga d' 7 k = 0) 64 (fun i s hi hs => by
      left
      obtain ⟨x, s⟩ := s
      obtain ⟨e1, e2, e3, e4, e5, e6, e7, e8⟩ := hs
      dsimp only at *
      refine ⟨(nI (i + 1), sa s 7 (upd (ga s 7) i 0)), ?_, rfl, e2, e3, e4, e5, e6, e7, fun k hk => ?_⟩
      · unfold fX0_empty_L32 lt_
        dsimp only
        rw [e1, if_neg (show ¬ (64 : Int32) ≤ nI i from nI_ge (b := 64) hi (by decide)), gd_pos (inbn (by omega) (by decide)), nI_clamp (by omega), nI_succ i]
      · show upd (ga s 7) i 0 k = 0
        by_cases c : k = i
        · rw [c, upd_eq]
        · rw [upd_ne _ _ c]; exact e8 k (by omega)) (fun s hs => by
      obtain ⟨x, s⟩ := s
      obtain ⟨e1, e2⟩ := hs
      dsimp only at *
      refine ⟨s, ?_, e2⟩
      unfold fX0_empty_L32
      dsimp only
      rw [e1, if_pos (show (64 : Int32) ≤ nI 64 by decide)]) 64 0 ((0 : Int32), si (sl (sl (si (si (si d 8 0) 13 0) 9 0) 10 0) 11 0) 12 0) (by omega) ⟨rfl, rfl, rfl, rfl, rfl, rfl, rfl, fun k hk => by omega⟩
  refine ⟨d', ?_, l2⟩
  unfold fX0_empty lt_
  dsimp only
  rw [l1, bs]
theorem plain_eq (M : Rc) : ∃ M', fX11_plain 4160 M = some M' ∧ FP M M' ∧ (∀ j, gi M' j = gi M j) ∧ (∀ j, ¬ j = 0 → ga M' j = ga M j) ∧ (∀ j, gb M' j = gb M j) ∧ (∀ k, 4160 ≤ k → k < 5200 → ga M' 0 k = if k = 4163 then -1 else 0) := by
  obtain ⟨M1, l1, l2, l3, l4, l5, l6⟩ := loop_one (b := fX11_plain_L2 4160) (fun i s => s.1 = nI i ∧ FP M s.2 ∧ (∀ j, gi s.2 j = gi M j) ∧ (∀ j, ¬ j = 0 → ga s.2 j = ga M j) ∧ (∀ j, gb s.2 j = gb M j) ∧ (∀ k, k < i → ga s.2 0 (4160 + k) = 0)) (fun M' => FP M M' ∧ (∀ j, gi M' j = gi M j) ∧ (∀ j, ¬ j = 0 → ga M' j = ga M j) ∧ (∀ j, gb M' j = gb M j) ∧ (∀ k, k < 1040 → ga M' 0 (4160 + k) = 0)) 1040 (fun i s hi hs => by
      left
      obtain ⟨x, s⟩ := s
      obtain ⟨e1, e2, e3, e4, e5, e6⟩ := hs
      dsimp only at *
      have hc : (4160 + nI i : Int32) = nI (4160 + i) := by
        apply i_ext
        rw [i_add, nI_toInt (by omega), nI_toInt (by omega)]
        · show (4160 : Int) + _ = _; omega
        · rw [nI_toInt (by omega)]; show _ ≤ (4160 : Int) + _; omega
        · rw [nI_toInt (by omega)]; show (4160 : Int) + _ < _; omega
      refine ⟨(nI (i + 1), sa s 0 (upd (ga s 0) (4160 + i) 0)), ?_, rfl, FP_trans e2 (FP_up _ (by omega) _), e3, fun j hj => by rw [ga_sa, if_neg hj]; exact e4 j hj, e5, fun k hk => ?_⟩
      · unfold fX11_plain_L2 lt_
        dsimp only
        rw [e1, if_neg (show ¬ (1040 : Int32) ≤ nI i from nI_ge (b := 1040) hi (by decide)), hc, gd_pos (inbn (by omega) (by decide)), nI_clamp (by omega), nI_succ i]
      · show upd (ga s 0) (4160 + i) 0 (4160 + k) = 0
        by_cases c : k = i
        · rw [c, upd_eq]
        · rw [upd_ne _ _ (by omega)]; exact e6 k (by omega)) (fun s hs => by
      obtain ⟨x, s⟩ := s
      obtain ⟨e1, e2⟩ := hs
      dsimp only at *
      refine ⟨s, ?_, e2⟩
      unfold fX11_plain_L2
      dsimp only
      rw [e1, if_pos (show (1040 : Int32) ≤ nI 1040 by decide)]) 1040 0 ((0 : Int32), M) (by omega) ⟨rfl, FP_refl _, fun _ => rfl, fun _ _ => rfl, fun _ => rfl, fun k hk => by omega⟩
  refine ⟨sa M1 0 (upd (ga M1 0) 4163 (-1)), ?_, FP_trans l2 (FP_up _ (by omega) _), l3, fun j hj => by rw [ga_sa, if_neg hj]; exact l4 j hj, l5, fun k k1 k2 => ?_⟩
  · unfold fX11_plain lt_
    rw [l1, bs, gd_pos (by decide)]
    rfl
  · rw [ga_sa0]
    by_cases c : k = 4163
    · rw [c, upd_eq, if_pos rfl]
    · rw [upd_ne _ _ c, if_neg c]
      have := l6 (k - 4160) (by omega)
      rw [show 4160 + (k - 4160) = k by omega] at this
      exact this
theorem DR_0 {d M : Rc} (h8 : gi d 8 = 0) (h13 : gi d 13 = 0) (h9 : gi d 9 = 0) (h10 : gl d 10 = 0) (h11 : gl d 11 = 0) (h12 : gi d 12 = 0) (h7 : ∀ k, k < 64 → ga d 7 k = 0) (hM : ∀ k, 4160 ≤ k → k < 5200 → ga M 0 k = if k = 4163 then -1 else 0) : DR d M 0 0 := by
  have hz : ∀ k, 4160 ≤ k → k < 5200 → ¬ k = 4163 → ga M 0 k = 0 := fun k a b c => by rw [hM k a b, if_neg c]
  have t0 : ∀ k, tb 0 k = false := fun k => by
    unfold tb
    exact Nat.zero_testBit k
  refine ⟨⟨by omega, h8, hz _ (by omega) (by omega) (by omega)⟩, ⟨by omega, h9, hz _ (by omega) (by omega) (by omega)⟩, ⟨?_, ?_⟩, ?_, fun f hf => by omega, fun f hf => by omega, fun i hi => ⟨?_, ?_⟩, fun f hf => h7 _ (by omega), fun k hk => by omega, fun k _ => ?_, fun k hk => ?_, ?_, fun k k1 k2 => hz _ (by omega) (by omega) (by omega)⟩
  · rw [h12]; exact hz _ (by omega) (by omega) (by omega)
  · rw [h12]; decide
  · rw [hM _ (by omega) (by omega), if_pos rfl]
  · rw [h7 i hi]; exact hz _ (by omega) (by omega) (by omega)
  · rw [h7 i hi]; decide
  · unfold wetB; rw [h10]; exact t0 k
  · unfold hailB at hk; rw [h11, t0 k] at hk; cases hk
  · rw [h13]; decide
theorem L31_Y {tk M : Rc} (hY : Y_ tk M) : ∃ M2, loopF fX11_bench_L31 ((1 : Int32), M) = some M2 ∧ FP M M2 ∧ X_ tk M2 := by
  obtain ⟨M2, s1, fp2, hX⟩ := fails_Y hY 2
  have m2 : fX11_bench_L31 ((1 : Int32), M) = some (.inl ((0 : Int32), M2)) := by
    unfold fX11_bench_L31 fX11_benchPart
    dsimp only
    rw [i10, hY.2.2.1, i10, inWords_bad hY.2.2.1, bs, if_neg (by decide), if_neg (by decide), if_neg (by decide), if_neg (by decide)]
    unfold lt_
    rw [s1]
    rfl
  exact ⟨M2, loopF_step m2 (loopF_stop (L31_0 M2)), fp2, hX⟩
