/-! ===== (B) at the start ===== -/
theorem plain_0 (M : Rc) : ∃ M', fX11_plain 0 M = some M' ∧ (∀ j, gi M' j = gi M j) ∧ (∀ j, gl M' j = gl M j) ∧ (∀ j, ¬ j = 0 → ga M' j = ga M j) ∧ (∀ j, gb M' j = gb M j) ∧ (∀ k, k < 1040 → ga M' 0 k = if k = 3 then -1 else 0) := by
  obtain ⟨r, l1, g, rfl, hg⟩ := loop_one (b := fX11_plain_L2 0) (fun i s => ∃ g, s = (nI i, sa M 0 g) ∧ ∀ k, k < i → g k = 0) (fun r => ∃ g, r = sa M 0 g ∧ ∀ k, k < 1040 → g k = 0) 1040 (fun i s hi hs => by
      left
      obtain ⟨g, rfl, hg⟩ := hs
      refine ⟨_, ?_, upd g i 0, rfl, fun k hk => ?_⟩
      · unfold fX11_plain_L2 lt_
        dsimp only
        rw [if_neg (show ¬ (1040 : Int32) ≤ nI i from nI_ge (b := 1040) hi (by decide)), show (0 : Int32) + nI i = nI i from by rw [show (0 : Int32) = nI 0 from rfl, nI_add, Nat.zero_add], gd_pos (inbn (by omega) (by decide)), nI_clamp (by omega), ga_sa0, sa_sa, nI_succ i]
      · by_cases c : k = i
        · rw [c, upd_eq]
        · rw [upd_ne _ _ c]; exact hg k (by omega)) (fun s hs => by
      obtain ⟨g, rfl, hg⟩ := hs
      refine ⟨_, ?_, g, rfl, hg⟩
      unfold fX11_plain_L2
      dsimp only
      rw [if_pos (show (1040 : Int32) ≤ nI 1040 by decide)]) 1040 0 ((0 : Int32), M) (by omega) ⟨ga M 0, by rw [sa_id]; rfl, fun k hk => by omega⟩
  refine ⟨sa M 0 (upd g 3 (-1)), ?_, fun _ => rfl, fun _ => rfl, fun j hj => by rw [ga_sa, if_neg hj], fun _ => rfl, fun k hk => ?_⟩
  · unfold fX11_plain lt_
    rw [l1, bs, gd_pos (by decide), ga_sa0, sa_sa]
    rfl
  · rw [ga_sa0]
    by_cases c : k = 3
    · rw [if_pos c, c, upd_eq]
    · rw [if_neg c, upd_ne _ _ c]; exact hg k hk
/-- the class' words are read -/
noncomputable def st8 (c : Int32) (p : Int32 × Int64 × (Nat → Int64)) : Int32 × Int64 × (Nat → Int64) := if c = (32 : Int32) then (p.1 + 1, 0, vp_updL p.2.2 p.1.toNatClampNeg p.2.1) else (p.1, fX8_withLetter p.2.1 c, p.2.2)
noncomputable def s8 : Nat → Int32 × Int64 × (Nat → Int64)
  | 0 => (0, 0, fun _ => 0)
  | i + 1 => st8 (chv by0 (nI i)) (s8 i)
theorem s8_lt : ∀ i, i < 166 → ¬ (30 : Int32) ≤ (s8 i).1 ∧ inb (s8 i).1 30 = true := by decide +kernel
theorem s8_kw : ∀ k, k < 30 → (s8 166).2.2 k = pk5 (kw.getD k []) := by decide +kernel
theorem words_start : fX8_init zX8 = some (sb zX8 1 (s8 166).2.2) := by
  have l : loopF fX8_init_L90 ((0 : Int32), (0 : Int64), (0 : Int32), zX8) = some (sb zX8 1 (s8 166).2.2) := by
    have e0 : sb zX8 1 (s8 0).2.2 = zX8 := by
      unfold sb
      rw [va_up_id _ 1 (by rfl)]
    have := loopF_run (b := fX8_init_L90) (fun i => ((s8 i).1, (s8 i).2.1, nI i, sb zX8 1 (s8 i).2.2)) 166 (r := sb zX8 1 (s8 166).2.2) (fun i hi => by
      obtain ⟨h1, h2⟩ := s8_lt i hi
      unfold fX8_init_L90 lt_
      dsimp only
      rw [if_neg (show ¬ (166 : Int32) ≤ nI i from nI_ge (b := 166) hi (by decide)), if_neg h1, gd_pos (inbn hi (by decide))]
      show _ = some (Sum.inl ((s8 (i + 1)).1, (s8 (i + 1)).2.1, nI (i + 1), sb zX8 1 (s8 (i + 1)).2.2))
      rw [← nI_1]
      rw [show s8 (i + 1) = st8 (chv by0 (nI i)) (s8 i) from rfl]
      unfold st8
      by_cases c : chv by0 (nI i) = 32
      · rw [if_pos c, if_pos c, gd_pos h2, sb_sb, gb_sb, if_pos rfl]
      · rw [if_neg c, if_neg c]) (by
      unfold fX8_init_L90
      dsimp only
      rw [if_pos (show (166 : Int32) ≤ nI 166 by decide)])
    rw [show ((0 : Int32), (0 : Int64), (0 : Int32), zX8) = ((s8 0).1, (s8 0).2.1, nI 0, sb zX8 1 (s8 0).2.2) by rw [e0]; rfl]
    exact this
  unfold fX8_init
  rw [l]
  rfl
theorem trays_start : ∃ r9, fX9_init zX9 = some r9 ∧ ga r9 1 = (fun _ => 0) ∧ gb r9 0 = (fun _ => 0) ∧ ga r9 2 = ga zX11 6 := by
  have s : ∀ (i : Nat) (g : Nat → Int32), i < 4 → fX9_init_L29 (nI i, sa zX9 2 g) = some (.inl (nI (i + 1), sa zX9 2 (upd g i (-1)))) := fun i g hi => by
    unfold fX9_init_L29 lt_
    dsimp only
    rw [if_neg (show ¬ (4 : Int32) ≤ nI i from nI_ge (b := 4) hi (by decide)), gd_pos (inbn hi (by decide)), nI_clamp (by omega), nI_1, ga_sa, if_pos rfl, sa_sa]
  have s4 : ∀ g, fX9_init_L29 (nI 4, sa zX9 2 g) = some (.inr (sa zX9 2 g)) := fun g => by
    unfold fX9_init_L29
    dsimp only
    rw [if_pos (show (4 : Int32) ≤ nI 4 by decide)]
  have l := loopF_step (s 0 (ga zX9 2) (by omega)) (loopF_step (s 1 _ (by omega)) (loopF_step (s 2 _ (by omega)) (loopF_step (s 3 _ (by omega)) (loopF_stop (s4 _)))))
  rw [sa_id] at l
  refine ⟨sa zX9 2 (upd (upd (upd (upd (ga zX9 2) 0 (-1)) 1 (-1)) 2 (-1)) 3 (-1)), ?_, ?_, ?_, ?_⟩
  · unfold fX9_init
    rw [show ((0 : Int32), zX9) = (nI 0, zX9) from rfl, l]
    rfl
  · rfl
  · rfl
  · rfl
theorem RB_zero {b M : Rc} (hb : b = zr) (hM : ∀ k, k < 1040 → ga M 0 k = if k = 3 then -1 else 0) : RB b M 0 0 := by
  subst hb
  have f0 : cF zr = 0 := by decide
  have d0 : cD zr = 0 := by decide
  have hw : ∀ k, wetB zr k = false := fun k => by
    unfold wetB tb
    show (0 : Int64).toBitVec.toNat.testBit k = false
    exact Nat.zero_testBit k
  have hh : ∀ k, hailB zr k = false := fun k => by
    unfold hailB tb
    show (0 : Int64).toBitVec.toNat.testBit k = false
    exact Nat.zero_testBit k
  refine ⟨⟨⟨by rw [f0]; rfl, by omega⟩, ⟨by rw [d0]; rfl, by omega⟩, fun f hf => by omega, fun k _ => hw k, fun k h => absurd h (by rw [hh]; decide), ⟨by decide, by decide⟩, fun i _ => ⟨by show 0 ≤ (0 : Int32).toInt; decide, by show (0 : Int32).toInt ≤ 99; decide⟩, fun f _ => rfl, by decide⟩, ?_, ?_, ?_, fun f hf => by omega, fun i hi => ?_, fun d hd => by omega, fun f d hf => by omega, fun f hf => by omega⟩
  · rw [hM 0 (by omega), if_neg (by omega)]; rfl
  · rw [hM _ (by omega), if_neg (by omega)]; rfl
  · rw [hM _ (by omega), if_neg (by omega)]; rfl
  · rw [hM _ (by omega), if_neg (by omega)]; rfl
theorem rel_start : ∃ r9 r8 r11, fX9_init zX9 = some r9 ∧ fX8_init zX8 = some r8 ∧ fX11_init zX11 = some r11 ∧ ∀ sg : Nat → Rc, sg 0 = zX10 → sg 1 = zX0 → sg 2 = zX5 → sg 14 = r9 → sg 15 = r8 → sg 18 = zX3 → sg 23 = zX7 → Rel sg r11 := by
  obtain ⟨r9, a1, a2, a3, a4⟩ := trays_start
  obtain ⟨r11, b1, b2, b3, b4, b5, b6⟩ := plain_0 zX11
  refine ⟨r9, _, r11, a1, words_start, by unfold fX11_init; rw [b1]; rfl, fun sg h0 h1 h2 h14 h15 h18 h23 => ?_⟩
  unfold Rel
  rw [h0, h1, h2, h14, h15, h18, h23]
  refine ⟨?_, RB_zero rfl b6, Or.inl ⟨rfl, ?_⟩, ?_, ?_, ⟨?_, ?_⟩, ?_, ?_, ?_, ?_⟩
  · refine ⟨?_, ?_, ?_, ?_, ?_, ?_⟩
    · rw [b2]; rfl
    · rw [b3]; rfl
    · rw [b3]; rfl
    · rw [b2]; rfl
    · decide
    · decide
  · rw [b6 _ (by omega)]; rfl
  · unfold RMs
    rw [h0]
    exact ⟨fun z => absurd z (by decide), fun z => absurd z (by decide), fun z => absurd z (by decide)⟩
  · refine ⟨?_, ?_, ?_, fun k hk => ?_⟩
    · rw [a2, b4 5 (by omega)]; rfl
    · rw [a4, b4 6 (by omega)]
    · rw [a3, b5]; rfl
    · rw [a4]
      have t : ∀ k, k < 4 → -1 ≤ (ga zX11 6 k).toInt ∧ (ga zX11 6 k).toInt ≤ 60 := by decide +kernel
      exact t k hk
  · refine ⟨?_, ?_, ⟨by decide, by decide⟩, ?_, ?_, fun k => ?_⟩
    · rw [b4 8 (by omega)]; rfl
    · rw [b2]; rfl
    · rw [b2]; rfl
    · rw [b2]; rfl
    · show -128 ≤ (0 : Int32).toInt ∧ (0 : Int32).toInt < 128
      decide
  · exact fun k hk => s8_kw k hk
  · refine ⟨?_, ?_, ?_⟩
    · rw [b2]
      exact ⟨fun _ => rfl, fun _ => rfl⟩
    · rw [b2]; exact Or.inl rfl
    · rw [b2]
      intro z
      exact absurd z (by decide)
  · refine ⟨?_, ?_, fun k _ hk => ?_⟩
    · rw [b2]; rfl
    · decide
    · exfalso
      rw [show (gi zX7 2).toInt = 0 by decide] at hk
      omega
  · rw [b2]; rfl
  · rw [b2]; rfl
