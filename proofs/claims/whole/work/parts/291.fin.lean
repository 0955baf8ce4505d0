/-! ===== (B) a bench that was read is put down ===== -/
/-- what putting it down leaves as it was -/
def FE (M M' : Rc) : Prop := (∀ j, gi M' j = gi M j) ∧ (∀ j, gl M' j = gl M j) ∧ (∀ j, ¬ j = 0 → ga M' j = ga M j) ∧ (∀ j, ¬ j = 1 → gb M' j = gb M j) ∧ (∀ k, 1040 ≤ k → ga M' 0 k = ga M 0 k) ∧ (∀ k, 8 ≤ k → gb M' 1 k = gb M 1 k)
theorem nI_plus {c i : Nat} (h : c + i < 2 ^ 31) {x : Int32} (hx : x = nI c) : x + nI i = nI (c + i) := by
  apply i_ext
  rw [hx]
  have y1 : (nI c).toInt = (c : Int) := nI_toInt (by omega)
  have y2 : (nI i).toInt = (i : Int) := nI_toInt (by omega)
  rw [i_add (by omega) (by omega), y1, y2, nI_toInt (by omega)]
  omega
theorem put_at (M : Rc) : ∃ g, loopF fX11_bench_L59 ((0 : Int32), M) = some (sa M 0 g) ∧ ∀ k, g k = if k < 1040 then ga M 0 (4160 + k) else ga M 0 k := by
  obtain ⟨r, l1, g, rfl, hg⟩ := loop_one (b := fX11_bench_L59) (fun i s => ∃ g, s = (nI i, sa M 0 g) ∧ ∀ k, g k = if k < i then ga M 0 (4160 + k) else ga M 0 k) (fun r => ∃ g, r = sa M 0 g ∧ ∀ k, g k = if k < 1040 then ga M 0 (4160 + k) else ga M 0 k) 1040 (fun i s hi hs => by
      left
      obtain ⟨g, rfl, hg⟩ := hs
      refine ⟨_, ?_, upd g i (ga M 0 (4160 + i)), rfl, fun k => ?_⟩
      · unfold fX11_bench_L59 lt_
        dsimp only
        rw [if_neg (show ¬ (1040 : Int32) ≤ nI i from nI_ge (b := 1040) hi (by decide)), show (4160 : Int32) + nI i = nI (4160 + i) from nI_plus (by omega) rfl, gd_pos (inbn (by omega) (by decide)), gd_pos (inbn (by omega) (by decide)), nI_clamp (by omega), nI_clamp (by omega), ga_sa0, hg (4160 + i), if_neg (by omega), sa_sa, nI_succ i]
      · by_cases c : k = i
        · rw [c, upd_eq, if_pos (by omega)]
        · rw [upd_ne _ _ c, hg k]
          by_cases c2 : k < i
          · rw [if_pos c2, if_pos (by omega)]
          · rw [if_neg c2, if_neg (by omega)]) (fun s hs => by
      obtain ⟨g, rfl, hg⟩ := hs
      refine ⟨_, ?_, g, rfl, hg⟩
      unfold fX11_bench_L59
      dsimp only
      rw [if_pos (show (1040 : Int32) ≤ nI 1040 by decide)]) 1040 0 ((0 : Int32), M) (by omega) ⟨ga M 0, by rw [sa_id]; rfl, fun k => by rw [if_neg (by omega)]⟩
  exact ⟨g, l1, hg⟩
theorem put_nm (M : Rc) : ∃ g, loopF fX11_bench_L90 ((0 : Int32), M) = some (sb M 1 g) ∧ ∀ k, g k = if k < 8 then gb M 1 (32 + k) else gb M 1 k := by
  obtain ⟨r, l1, g, rfl, hg⟩ := loop_one (b := fX11_bench_L90) (fun i s => ∃ g, s = (nI i, sb M 1 g) ∧ ∀ k, g k = if k < i then gb M 1 (32 + k) else gb M 1 k) (fun r => ∃ g, r = sb M 1 g ∧ ∀ k, g k = if k < 8 then gb M 1 (32 + k) else gb M 1 k) 8 (fun i s hi hs => by
      left
      obtain ⟨g, rfl, hg⟩ := hs
      refine ⟨_, ?_, vp_updL g i (gb M 1 (32 + i)), rfl, fun k => ?_⟩
      · unfold fX11_bench_L90 lt_
        dsimp only
        rw [if_neg (show ¬ (8 : Int32) ≤ nI i from nI_ge (b := 8) hi (by decide)), show (32 : Int32) + nI i = nI (32 + i) from nI_plus (by omega) rfl, gd_pos (inbn (by omega) (by decide)), gd_pos (inbn (by omega) (by decide)), nI_clamp (by omega), nI_clamp (by omega), show gb (sb M 1 g) 1 = g from rfl, hg (32 + i), if_neg (by omega), sb_sb, nI_succ i]
      · unfold vp_updL
        by_cases c : k = i
        · rw [if_pos c, c, if_pos (by omega)]
        · rw [if_neg c, hg k]
          by_cases c2 : k < i
          · rw [if_pos c2, if_pos (by omega)]
          · rw [if_neg c2, if_neg (by omega)]) (fun s hs => by
      obtain ⟨g, rfl, hg⟩ := hs
      refine ⟨_, ?_, g, rfl, hg⟩
      unfold fX11_bench_L90
      dsimp only
      rw [if_pos (show (8 : Int32) ≤ nI 8 by decide)]) 8 0 ((0 : Int32), M) (by omega) ⟨gb M 1, by rw [sb_id M 1 rfl]; rfl, fun k => by rw [if_neg (by omega)]⟩
  exact ⟨g, l1, hg⟩
/-- the class settles it -/
theorem settle_eq {d : Rc} {F : Nat} (hF : F ≤ 8) (h8 : gi d 8 = nI F) (hdue : ∀ f, f < F → ∃ x, fX0_dueDays (nI f) d = some x) : ∃ w r, fX0_settle d = some (sb (sa d 5 w) 6 r) ∧ ∀ f, f < F → w f = 64 ∧ fX0_dueDays (nI f) d = some (r f) := by
  obtain ⟨s, l1, w, r, rfl, hw⟩ := loop_one (b := fX0_settle_L2) (fun i s => ∃ w r, s = (nI i, sb (sa d 5 w) 6 r) ∧ ∀ f, f < i → w f = 64 ∧ fX0_dueDays (nI f) d = some (r f)) (fun s => ∃ w r, s = sb (sa d 5 w) 6 r ∧ ∀ f, f < F → w f = 64 ∧ fX0_dueDays (nI f) d = some (r f)) F (fun i s hi hs => by
      left
      obtain ⟨w, r, rfl, hw⟩ := hs
      obtain ⟨x, hx⟩ := hdue i hi
      refine ⟨_, ?_, upd w i 64, vp_updL r i x, rfl, fun f hf => ?_⟩
      · unfold fX0_settle_L2 lt_
        dsimp only
        have e1 : fX0_dueDays (nI i) (sa (sb (sa d 5 w) 6 r) 5 (upd (ga (sb (sa d 5 w) 6 r) 5) i 64)) = fX0_dueDays (nI i) d := rfl
        rw [show gi (sb (sa d 5 w) 6 r) 8 = nI F from h8, if_neg (n_ge hi (by omega)), gd_pos (inbn (by omega) (by decide)), nI_clamp (by omega), e1, hx, bs, nI_succ i]
        have e2 : sb (sa (sb (sa d 5 w) 6 r) 5 (upd (ga (sb (sa d 5 w) 6 r) 5) i 64)) 6 (vp_updL (gb (sa (sb (sa d 5 w) 6 r) 5 (upd (ga (sb (sa d 5 w) 6 r) 5) i 64)) 6) i x) = sb (sb (sa (sa d 5 w) 5 (upd w i 64)) 6 r) 6 (vp_updL r i x) := rfl
        rw [e2, sb_sb, sa_sa]
      · by_cases c : f = i
        · rw [c, upd_eq]
          refine ⟨rfl, ?_⟩
          rw [hx]
          unfold vp_updL
          rw [if_pos rfl]
        · rw [upd_ne _ _ c]
          unfold vp_updL
          rw [if_neg c]
          exact hw f (by omega)) (fun s hs => by
      obtain ⟨w, r, rfl, hw⟩ := hs
      refine ⟨_, ?_, w, r, rfl, hw⟩
      unfold fX0_settle_L2
      dsimp only
      rw [show gi (sb (sa d 5 w) 6 r) 8 = nI F from h8, if_pos (Int32.le_refl _)]) F 0 ((0 : Int32), d) (by omega) ⟨ga d 5, gb d 6, by rw [sa_id, sb_id d 6 rfl]; rfl, fun f hf => by omega⟩
  refine ⟨w, r, ?_, hw⟩
  unfold fX0_settle
  rw [l1, bs]
theorem due_out {b : Rc} {f k : Nat} (h : cD b ≤ k) : due b f k = false := by
  unfold due clB
  rw [decide_eq_false (by omega), Bool.false_and]
/-- a word with one of its bits as it should be -/
theorem tb_to (b : Rc) (f : Nat) {d : Nat} (hd : d < 64) (v : Bool) : ∃ x, ∀ k, k < 64 → tb x k = if k = d then v else tw b f k := by
  by_cases c : tw b f d = v
  · refine ⟨gb b 6 f, fun k hk => ?_⟩
    by_cases q : k = d
    · rw [if_pos q, q]; exact c
    · rw [if_neg q]; rfl
  · refine ⟨gb b 6 f ^^^ ((1 : Int64) <<< ((nI d).toInt64 &&& 63)), fun k hk => ?_⟩
    rw [tb_flip hd k hk]
    have : (!tw b f d) = v := by
      revert c
      cases tw b f d <;> cases v <;> decide
    rw [this]
/-- the reference's rows of twinges -/
theorem twinges_row {b0 M : Rc} {f : Nat} (r : Nat → Int64) (hR : RB (sb b0 6 r) M 0 0) (hf : f < cF b0) : ∃ r' g, loopF (fX11_bench_L132 (nI f, M)) ((0 : Int32), M) = some (sa M 0 g) ∧ RB (sb b0 6 r') (sa M 0 g) 0 0 ∧ (∀ j, ¬ j = f → r' j = r j) ∧ (∀ k, k < cD b0 → tb (r' f) k = due b0 f k) ∧ (∀ k, (k < 182 ∨ 662 ≤ k) → g k = ga M 0 k) := by
  have hF : cF b0 ≤ 8 := hR.1.1.2
  have hD : cD b0 ≤ 60 := hR.1.2.1.2
  obtain ⟨s, l1, r', g, rfl, h1, h2, h3, h4⟩ := loop_one (b := fX11_bench_L132 (nI f, M)) (fun i s => ∃ (r' : Nat → Int64) (g : Nat → Int32), s = (nI i, sa M 0 g) ∧ RB (sb b0 6 r') (sa M 0 g) 0 0 ∧ (∀ j, ¬ j = f → r' j = r j) ∧ (∀ k, k < i → tb (r' f) k = due b0 f k) ∧ (∀ k, (k < 182 ∨ 662 ≤ k) → g k = ga M 0 k)) (fun s => ∃ (r' : Nat → Int64) (g : Nat → Int32), s = sa M 0 g ∧ RB (sb b0 6 r') (sa M 0 g) 0 0 ∧ (∀ j, ¬ j = f → r' j = r j) ∧ (∀ k, k < cD b0 → tb (r' f) k = due b0 f k) ∧ (∀ k, (k < 182 ∨ 662 ≤ k) → g k = ga M 0 k)) (cD b0) (fun i s hi hs => by
      left
      obtain ⟨r', g, rfl, h1, h2, h3, h4⟩ := hs
      have em : ga (sa M 0 g) 0 (1 : Int32).toNatClampNeg = nI (cD b0) := many_eq (b := sb b0 6 r') h1
      have sf : fX11_shouldFeel (nI f) (nI i) (sa M 0 g) = some (b1 (due b0 f i)) := shouldFeel_eq h1 (f := f) (d := i) hf hi
      obtain ⟨x, hx⟩ := tb_to (sb b0 6 r') f (d := i) (by omega) (due b0 f i)
      have h5 := rb_tw h1 (f := f) (d := i) hf hi hx
      refine ⟨(nI (i + 1), sa M 0 (upd g (182 + 60 * f + i) (b1 (due b0 f i)))), ?_, vp_updL r' f x, upd g (182 + 60 * f + i) (b1 (due b0 f i)), rfl, ?_, fun j hj => ?_, fun k hk => ?_, fun k hk => ?_⟩
      · unfold fX11_bench_L132 lt_
        dsimp only
        rw [em, if_neg (n_ge hi hD), sf, bs, tRow, gd_pos (inbn (by omega) (by decide)), gd_pos (inbn (by omega) (by decide)), nI_clamp (by omega), sa_sa, sa_sa, nI_succ i]
        cases due b0 f i <;> rfl
      · rw [sb_sb, sa_sa] at h5
        exact h5
      · unfold vp_updL
        rw [if_neg hj]
        exact h2 j hj
      · unfold vp_updL
        rw [if_pos rfl, hx k (by omega)]
        by_cases c : k = i
        · rw [if_pos c, c]
        · rw [if_neg c]
          exact h3 k (by omega)
      · rw [upd_ne _ _ (by omega)]
        exact h4 k hk) (fun s hs => by
      obtain ⟨r', g, rfl, h1, h2, h3, h4⟩ := hs
      have em : ga (sa M 0 g) 0 (1 : Int32).toNatClampNeg = nI (cD b0) := many_eq (b := sb b0 6 r') h1
      refine ⟨sa M 0 g, ?_, r', g, rfl, h1, h2, h3, h4⟩
      unfold fX11_bench_L132
      dsimp only
      rw [em, if_pos (Int32.le_refl _)]) (cD b0) 0 ((0 : Int32), M) (by omega) ⟨r, ga M 0, by rw [sa_id]; rfl, by rw [sa_id]; exact hR, fun _ _ => rfl, fun k hk => by omega, fun _ _ => rfl⟩
  exact ⟨r', g, l1, h1, h2, h3, h4⟩
theorem twinges_all {b0 M : Rc} (r : Nat → Int64) (hR : RB (sb b0 6 r) M 0 0) : ∃ r' g, loopF fX11_bench_L119 ((0 : Int32), M) = some (sa M 0 g) ∧ RB (sb b0 6 r') (sa M 0 g) 0 0 ∧ (∀ j, cF b0 ≤ j → r' j = r j) ∧ (∀ f k, f < cF b0 → k < cD b0 → tb (r' f) k = due b0 f k) ∧ (∀ k, (k < 182 ∨ 662 ≤ k) → g k = ga M 0 k) := by
  have hF : cF b0 ≤ 8 := hR.1.1.2
  have fm : ∀ {r' : Nat → Int64} {M' : Rc}, RB (sb b0 6 r') M' 0 0 → ga M' 0 (0 : Int32).toNatClampNeg = nI (cF b0) := fun {r' M'} h => by
    rw [c0, show ga M' 0 0 = gi b0 8 from h.2.1]
    exact h.1.1.1
  obtain ⟨s, l1, r', g, rfl, h1, h2, h3, h4⟩ := loop_one (b := fX11_bench_L119) (fun i s => ∃ (r' : Nat → Int64) (g : Nat → Int32), s = (nI i, sa M 0 g) ∧ RB (sb b0 6 r') (sa M 0 g) 0 0 ∧ (∀ j, cF b0 ≤ j → r' j = r j) ∧ (∀ f k, f < i → k < cD b0 → tb (r' f) k = due b0 f k) ∧ (∀ k, (k < 182 ∨ 662 ≤ k) → g k = ga M 0 k)) (fun s => ∃ (r' : Nat → Int64) (g : Nat → Int32), s = sa M 0 g ∧ RB (sb b0 6 r') (sa M 0 g) 0 0 ∧ (∀ j, cF b0 ≤ j → r' j = r j) ∧ (∀ f k, f < cF b0 → k < cD b0 → tb (r' f) k = due b0 f k) ∧ (∀ k, (k < 182 ∨ 662 ≤ k) → g k = ga M 0 k)) (cF b0) (fun i s hi hs => by
      left
      obtain ⟨r', g, rfl, h1, h2, h3, h4⟩ := hs
      obtain ⟨r2, g2, l1, w1, w2, w3, w4⟩ := twinges_row r' h1 hi
      refine ⟨(nI (i + 1), sa M 0 g2), ?_, r2, g2, rfl, ?_, fun j hj => ?_, fun f k hf hk => ?_, fun k hk => ?_⟩
      · unfold fX11_bench_L119
        dsimp only
        rw [fm h1, if_neg (n_ge hi (by omega)), l1, bs, sa_sa, nI_succ i]
      · rw [sa_sa] at w1; exact w1
      · rw [w2 j (by omega)]; exact h2 j hj
      · by_cases c : f = i
        · rw [c]; exact w3 k hk
        · rw [w2 f c]; exact h3 f k (by omega) hk
      · exact (w4 k hk).trans (h4 k hk)) (fun s hs => by
      obtain ⟨r', g, rfl, h1, h2, h3, h4⟩ := hs
      refine ⟨sa M 0 g, ?_, r', g, rfl, h1, h2, h3, h4⟩
      unfold fX11_bench_L119
      dsimp only
      rw [fm h1, if_pos (Int32.le_refl _)]) (cF b0) 0 ((0 : Int32), M) (by omega) ⟨r, ga M 0, by rw [sa_id]; rfl, by rw [sa_id]; exact hR, fun _ _ => rfl, fun f k hf => by omega, fun _ _ => rfl⟩
  exact ⟨r', g, l1, h1, h2, h3, h4⟩
/-- the draft, as a bench with no twinge yet -/
theorem DR_RB {d M M2 : Rc} {F D : Nat} (hd : DR d M F D) (w : Nat → Int32) (r : Nat → Int64) (hw : ∀ f, f < F → w f = 64) (hr : ∀ f, f < F → r f = 0) (h1 : ∀ k, k < 1040 → ga M2 0 k = ga M 0 (4160 + k)) (h2 : ∀ k, k < 8 → gb M2 1 k = gb M 1 (32 + k)) : RB (sb (sa d 5 w) 6 r) M2 0 0 := by
  obtain ⟨⟨a1, a2, a3⟩, ⟨c1, c2, c3⟩, ⟨e1, e2⟩, e3, e4, e5, e6, e7, e8, e9, e10, e11, e12⟩ := hd
  have eF : cF (sb (sa d 5 w) 6 r) = F := by
    show (gi d 8).toInt.toNat = F
    rw [a2, nI_toInt (by omega)]; rfl
  have eD : cD (sb (sa d 5 w) 6 r) = D := by
    show (gi d 9).toInt.toNat = D
    rw [c2, nI_toInt (by omega)]; rfl
  have t0 : ∀ f, f < F → ∀ k, tw (sb (sa d 5 w) 6 r) f k = false := fun f hf k => by
    show tb (r f) k = false
    rw [hr f hf]
    exact Nat.zero_testBit k
  refine ⟨⟨⟨by rw [eF]; exact a2, by omega⟩, ⟨by rw [eD]; exact c2, by omega⟩, fun f hf => ?_, fun k hk => ?_, e10, e2, fun i hi => (e6 i hi).2, e7, ?_⟩, ?_, ?_, ?_, fun f hf => ?_, fun i hi => ?_, fun k hk => ?_, fun f k hf hk => ?_, fun f hf => ?_⟩
  · rw [eF] at hf
    obtain ⟨z0, z1, z2, z3, z4, z5, z6, z7, z8, z9⟩ := e4 f hf
    refine ⟨z6, z9, z7, z8, ?_, fun k _ => t0 f hf k⟩
    show 1 ≤ (w f).toInt ∧ (w f).toInt ≤ 64
    rw [hw f hf]; decide
  · rw [eD] at hk
    exact e9 k hk
  · exact Nat.lt_of_lt_of_le e11 (Nat.pow_le_pow_right (by decide) a1)
  · rw [h1 _ (by omega)]; exact a3.trans a2.symm
  · rw [h1 _ (by omega)]; exact c3.trans c2.symm
  · rw [h1 _ (by omega)]; exact e1
  · rw [eF] at hf
    obtain ⟨z0, z1, z2, z3, z4, z5, -⟩ := e4 f hf
    have q : ∀ j, j < 6 → ga M2 0 (0 + 10 + 6 * f + j) = ga M 0 (4170 + 6 * f + j) := fun j hj => by
      rw [h1 _ (by omega)]
      congr 1
      omega
    refine ⟨(q 0 (by omega)).trans z0, (q 1 (by omega)).trans z1, (q 2 (by omega)).trans z2, (q 3 (by omega)).trans z3, (q 4 (by omega)).trans z4, ((q 5 (by omega)).trans z5).trans (hw f hf).symm⟩
  · rw [h1 _ (by omega), show 4160 + (0 + 58 + i) = 4218 + i by omega]
    exact (e6 i hi).1
  · rw [eD] at hk
    rw [h1 _ (by omega), show 4160 + (0 + 122 + k) = 4282 + k by omega]
    exact e8 k hk
  · rw [eF] at hf
    rw [eD] at hk
    rw [t0 f hf k, h1 _ (by omega)]
    exact e12 _ (by omega) (by omega)
  · rw [eF] at hf
    obtain ⟨u, u1, u2, u3⟩ := e5 f hf
    exact ⟨u, u1, u2, by rw [h2 _ (by omega), show 32 + (0 + f) = 32 + f by omega]; exact u3⟩
theorem bench_fin {d M : Rc} {F D : Nat} (hd : DR d M F D) (h18 : gi M 18 = 0) : ∃ d2 M3, fX0_settle d = some d2 ∧ fX11_bench_J50 M = some (gi d2 8, si (si M3 16 0) 2 0) ∧ RB d2 M3 0 0 ∧ ga M3 0 3 = -1 ∧ FE M M3 := by
  have hF : F ≤ 8 := hd.1.1
  have h8 : gi d 8 = nI F := hd.1.2.1
  obtain ⟨g, p1, p2⟩ := put_at M
  obtain ⟨nm, p3, p4⟩ := put_nm (sa M 0 g)
  have q1 : ∀ k, k < 1040 → ga (sb (sa M 0 g) 1 nm) 0 k = ga M 0 (4160 + k) := fun k hk => by
    show g k = _
    rw [p2 k, if_pos hk]
  have q2 : ∀ k, k < 8 → gb (sb (sa M 0 g) 1 nm) 1 k = gb M 1 (32 + k) := fun k hk => by
    show nm k = _
    rw [p4 k, if_pos hk]; rfl
  have hz := DR_RB hd (fun _ => 64) (fun _ => 0) (fun _ _ => rfl) (fun _ _ => rfl) q1 q2
  have eF : ∀ w r, cF (sb (sa d 5 w) 6 r) = F := fun w r => by
    show (gi d 8).toInt.toNat = F
    rw [h8, nI_toInt (by omega)]; rfl
  have hdue : ∀ f, f < F → ∃ x, fX0_dueDays (nI f) d = some x ∧ ∀ k, k < 64 → tb x k = due d f k := fun f hf => by
    obtain ⟨x, x1, x2⟩ := due_eq hz.1 (f := f) (by rw [eF]; exact hf)
    exact ⟨x, x1, x2⟩
  obtain ⟨w, r, s1, s2⟩ := settle_eq hF h8 (fun f hf => by obtain ⟨x, x1, -⟩ := hdue f hf; exact ⟨x, x1⟩)
  have hb0 := DR_RB hd w (fun k => if k < F then 0 else r k) (fun f hf => (s2 f hf).1) (fun f hf => if_pos hf) q1 q2
  obtain ⟨r', g2, t1, t2, t3, t4, t5⟩ := twinges_all (b0 := sa d 5 w) _ hb0
  have eF2 : cF (sa d 5 w) = F := eF w (gb (sa d 5 w) 6)
  have er : r' = r := by
    funext f
    by_cases c : f < F
    · apply tb_ext
      intro k hk
      obtain ⟨x, x1, x2⟩ := hdue f c
      have x3 : x = r f := Option.some.inj (x1.symm.trans (s2 f c).2)
      rw [← x3, x2 k hk]
      by_cases c2 : k < cD (sa d 5 w)
      · exact t4 f k (by omega) c2
      · have bf := (t2.1.2.2.1 f (by show f < cF (sa d 5 w); omega)).2.2.2.2.2 k (by show cD (sa d 5 w) ≤ k; omega)
        have d0 : due d f k = false := due_out (b := d) (by show cD (sa d 5 w) ≤ k; omega)
        rw [d0]
        exact bf
    · rw [t3 f (by omega)]
      exact if_neg c
  rw [er] at t2
  refine ⟨_, sa (sb (sa M 0 g) 1 nm) 0 g2, s1, ?_, t2, ?_, fun _ => rfl, fun _ => rfl, fun j hj => ?_, fun j hj => ?_, fun k hk => ?_, fun k hk => ?_⟩
  · unfold fX11_bench_J50
    rw [if_pos h18, p1, bs, p3, bs, t1, bs]
    unfold fX11_bench_J181 fX11_taken lt_
    dsimp only
    have f0 : ga (sa (sb (sa M 0 g) 1 nm) 0 g2) 0 (0 : Int32).toNatClampNeg = gi (sb (sa d 5 w) 6 r) 8 := t2.2.1
    have f18 : gi (sa (sb (sa M 0 g) 1 nm) 0 g2) 18 = 0 := h18
    have f18b : gi (si (sa (sb (sa M 0 g) 1 nm) 0 g2) 16 0) 18 = 0 := h18
    rw [f0, f18, f18b, if_pos (by decide)]
    rfl
  · show g2 3 = -1
    rw [t5 3 (by omega)]
    show g 3 = -1
    rw [p2 3, if_pos (by decide)]
    exact hd.2.2.2.1
  · rw [ga_sa, if_neg hj]
    show ga (sa M 0 g) j = _
    rw [ga_sa, if_neg hj]
  · show gb (sb (sa M 0 g) 1 nm) j = _
    rw [gb_sb, if_neg hj]
    rfl
  · show g2 k = _
    rw [t5 k (by omega)]
    show g k = _
    rw [p2 k, if_neg (by omega)]
  · show nm k = _
    rw [p4 k, if_neg (by omega)]
    rfl
