/-! ===== (B) feeling by draws; the tape ===== -/
def tot (b : Rc) : Nat → Nat
  | 0 => 0
  | i + 1 => tot b i + ct (tw b i) (cD b)
theorem tot_succ (b : Rc) (i : Nat) : tot b (i + 1) = tot b i + ct (tw b i) (cD b) := rfl
theorem tot_le (b : Rc) (h : cD b ≤ 60) : ∀ i, tot b i ≤ 60 * i := by
  intro i
  induction i with
  | zero => exact Nat.le_refl _
  | succ i ih => have := ct_le (tw b i) (cD b); rw [tot_succ]; omega
theorem tot_cong {b b' : Rc} (hc : cD b' = cD b) : ∀ {i : Nat}, (∀ f, f < i → gb b' 6 f = gb b 6 f) → tot b' i = tot b i := by
  intro i
  induction i with
  | zero => intro _; rfl
  | succ i ih =>
    intro h
    rw [tot_succ, tot_succ, ih (fun f hf => h f (by omega)), hc]
    congr 1
    unfold tw
    rw [h i (by omega)]
theorem allTw_eq {b : Rc} (hB : BI b) : fX0_allTwinges b = some (nI (tot b (cF b))) := by
  have hF : cF b ≤ 8 := hB.1.2
  unfold fX0_allTwinges
  have l : loopF (fX0_allTwinges_L4 b) ((0 : Int32), (0 : Int32)) = some (nI (tot b (cF b))) := by
    refine loopF_run (fun i => (nI (tot b i), nI i)) (cF b) (fun i hi => ?_) ?_
    · unfold fX0_allTwinges_L4 lt_
      dsimp only
      rw [hB.1.1, if_neg (nI_ge hi (by omega)), gd_pos (inbn (by omega) (by decide)), nI_clamp (by omega), tw_bc hB hi, nI_add, nI_1, tot_succ]
    · unfold fX0_allTwinges_L4
      dsimp only
      rw [hB.1.1, if_pos (nI_le (Nat.le_refl _) (by omega))]
  rw [l]; rfl
/-- a draw: the same on both sides -/
def drw (s : Int32) : Int32 := ((s * 2857) + 11059) - ((s * 2857) + 11059) / 65536 * 65536
def drv (s : Int32) : Int32 := (drw s / 8) - (drw s / 8) / 16 * 16
theorem drawC (dr : Rc) : fX2_drawBy16 dr = (drv (gi dr 0), si dr 0 (drw (gi dr 0))) := rfl
theorem drawM (M : Rc) : fX11_draw 16 M = some (drv (gi M 24), si M 24 (drw (gi M 24))) := rfl
def rowB (b : Rc) (f : Nat) (y : Int64) : Rc := sb b 6 (vp_updL (gb b 6) f y)
theorem rowB_rowB (b : Rc) (f : Nat) (y z : Int64) : sb (rowB b f y) 6 (vp_updL (gb (rowB b f y) 6) f z) = rowB b f z := by
  unfold rowB
  rw [sb_sb, gb_sb0]
  congr 1
  funext j
  unfold vp_updL
  split <;> rfl
theorem rowB_tw (b : Rc) (f : Nat) (y : Int64) (k : Nat) : tw (rowB b f y) f k = tb y k := by
  show tb (vp_updL (gb b 6) f y f) k = _
  unfold vp_updL
  rw [if_pos rfl]
theorem rowB_id (b : Rc) (f : Nat) : rowB b f (gb b 6 f) = b := by
  unfold rowB
  apply sb_id
  funext j
  unfold vp_updL
  split
  · rename_i h; rw [h]
  · rfl
theorem feel_row {b M : Rc} {n f : Nat} (hR : RB b M 0 n) (hf : f < cF b) {dr : Rc} (hs : gi dr 0 = gi M 24) {du : Int64} (hdu : ∀ k, k < 64 → tb du k = due b f k) (c0 : Nat) : ∃ (x : Int64) (s : Int32) (g : Nat → Int32), loopF (fX0_feelBy_L22 (nI f, b, dr) du) ((0 : Int64), (0 : Int32), dr) = some (x, si dr 0 s) ∧ loopF (fX11_feels_L16 (nI c0, nI f, M)) (nI c0, (0 : Int32), M) = some (nI (c0 + ct (tb x) (cD b)), sa (si M 24 s) 0 g) ∧ RB (rowB b f x) (sa (si M 24 s) 0 g) 0 n ∧ (∀ k, (k = 3 ∨ 670 ≤ k) → g k = ga M 0 k) := by
  have hF : cF b ≤ 8 := hR.1.1.2
  have hD : cD b ≤ 60 := hR.1.2.1.2
  obtain ⟨fl1, fl2, fs1, fs2⟩ := fl_eq hR.1 hf
  have hb0 : RB (rowB b f (gb b 6 f)) M 0 n := by rw [rowB_id]; exact hR
  obtain ⟨r, k, l1, l2, x, s, g, rfl, rfl, rb, hx, fr⟩ := loop_rel (b := fX0_feelBy_L22 (nI f, b, dr) du) (c := fX11_feels_L16 (nI c0, nI f, M)) (fun i s t => ∃ (x y : Int64) (u : Int32) (g : Nat → Int32), s = (x, nI i, si dr 0 u) ∧ t = (nI (c0 + ct (tb x) i), nI i, sa (si M 24 u) 0 g) ∧ RB (rowB b f y) (sa (si M 24 u) 0 g) 0 n ∧ (∀ k, k < 64 → tb y k = if k < i then tb x k else tw b f k) ∧ (∀ k, i ≤ k → tb x k = false) ∧ (∀ k, (k = 3 ∨ 670 ≤ k) → g k = ga M 0 k)) (fun r t => ∃ (x : Int64) (u : Int32) (g : Nat → Int32), r = (x, si dr 0 u) ∧ t = (nI (c0 + ct (tb x) (cD b)), sa (si M 24 u) 0 g) ∧ RB (rowB b f x) (sa (si M 24 u) 0 g) 0 n ∧ (∀ k, cD b ≤ k → tb x k = false) ∧ (∀ k, (k = 3 ∨ 670 ≤ k) → g k = ga M 0 k)) (cD b) (fun i s t hi h => by
      obtain ⟨x, y, u, g, rfl, rfl, rb, hy, hx, fr⟩ := h
      left
      have rb' : RB (rowB b f y) (si (sa (si M 24 u) 0 g) 24 (drw u)) 0 n := rb
      have em : ga (sa (si M 24 u) 0 g) 0 (1 : Int32).toNatClampNeg = nI (cD b) := many_eq (b := rowB b f y) rb
      obtain ⟨-, m1, m2, -⟩ := fr_eq rb' (f := f) hf
      have m1' : ga (si (sa (si M 24 u) 0 g) 24 (drw u)) 0 (10 + 6 * f + 1) = nI (fl b f) := m1.trans fl1
      have m2' : ga (si (sa (si M 24 u) 0 g) 24 (drw u)) 0 (10 + 6 * f + 2) = nI (fs b f) := m2.trans fs1
      have sf := shouldFeel_eq rb' (f := f) (d := i) hf hi
      have ed : due (rowB b f y) f i = due b f i := rfl
      unfold fX0_feelBy_L22 fX0_feelBy_J53 fX11_feels_L16 lt_
      dsimp only
      rw [em, hR.1.2.1.1, if_neg (n_ge hi hD), if_neg (n_ge hi hD), drawC, drawM]
      dsimp only [Option.bind]
      rw [show gi (si dr 0 u) 0 = u from rfl, show gi (sa (si M 24 u) 0 g) 24 = u from rfl, sf, ed, tb_bit (by omega), hdu i (by omega), si_si, nI_1]
      simp only [fRowk f 1 1 rfl, fRowk f 2 2 rfl, gd_pos (inbn (k := f) (n := 8) (by omega) (by decide)), gd_pos (inbn (k := 10 + 6 * f + 1) (n := 6240) (by omega) (by decide)), gd_pos (inbn (k := 10 + 6 * f + 2) (n := 6240) (by omega) (by decide)), nI_clamp (show f < 2 ^ 31 by omega), nI_clamp (show 10 + 6 * f + 1 < 2 ^ 31 by omega), nI_clamp (show 10 + 6 * f + 2 < 2 ^ 31 by omega), m1', m2', fl1, fs1]
      have fin : ∀ v : Bool, ∃ s' t', some (Sum.inl (if v = true then x ||| ((1 : Int64) <<< ((nI i).toInt64 &&& 63)) else x, nI (i + 1), si dr 0 (drw u))) = some (Sum.inl (β := Int64 × Rc) s') ∧ fX11_feels_J90 (nI c0, nI f, M) (nI (c0 + ct (tb x) i), nI i, sa (si M 24 u) 0 g) (b1 v) (si (sa (si M 24 u) 0 g) 24 (drw u)) = some (Sum.inl t') ∧ ∃ (x y : Int64) (u : Int32) (g : Nat → Int32), s' = (x, nI (i + 1), si dr 0 u) ∧ t' = (nI (c0 + ct (tb x) (i + 1)), nI (i + 1), sa (si M 24 u) 0 g) ∧ RB (rowB b f y) (sa (si M 24 u) 0 g) 0 n ∧ (∀ k, k < 64 → tb y k = if k < i + 1 then tb x k else tw b f k) ∧ (∀ k, i + 1 ≤ k → tb x k = false) ∧ (∀ k, (k = 3 ∨ 670 ≤ k) → g k = ga M 0 k) := by
        intro v
        generalize hx' : (if v = true then x ||| ((1 : Int64) <<< ((nI i).toInt64 &&& 63)) else x) = x'
        have bx : ∀ k, k < 64 → tb x' k = if k = i then v else tb x k := by
          intro k hk
          rw [← hx']
          cases v with
          | true =>
            rw [if_pos rfl, tb_or, tb_one (by omega) hk]
            by_cases q : k = i
            · rw [if_pos q, decide_eq_true q, Bool.or_true]
            · rw [if_neg q, decide_eq_false q, Bool.or_false]
          | false =>
            rw [if_neg (by decide)]
            by_cases q : k = i
            · rw [if_pos q, q, hx i (Nat.le_refl _)]
            · rw [if_neg q]
        generalize hy' : (if v = true then y ||| ((1 : Int64) <<< ((nI i).toInt64 &&& 63)) else y &&& (((1 : Int64) <<< ((nI i).toInt64 &&& 63)) ^^^ (-1))) = y'
        have bz : ∀ k, k < 64 → tb y' k = if k = i then v else tb y k := by
          intro k hk
          rw [← hy']
          cases v with
          | true =>
            rw [if_pos rfl, tb_or, tb_one (by omega) hk]
            by_cases q : k = i
            · rw [if_pos q, decide_eq_true q, Bool.or_true]
            · rw [if_neg q, decide_eq_false q, Bool.or_false]
          | false =>
            rw [if_neg (by decide), tb_and, tb_not hk, tb_one (by omega) hk]
            by_cases q : k = i
            · rw [if_pos q, decide_eq_true q]; simp
            · rw [if_neg q, decide_eq_false q]; simp
        have rb2 := rb_tw rb' (f := f) (d := i) hf hi (x := y') (v := v) (fun k hk => by rw [bz k hk, rowB_tw])
        rw [rowB_rowB] at rb2
        have ect : ct (tb x') (i + 1) = ct (tb x) i + (if v = true then 1 else 0) := by
          rw [ct_succ, bx i (by omega), if_pos rfl]
          congr 1
          exact ct_cong (fun k hk => by rw [bx k (by omega), if_neg (by omega)])
        refine ⟨_, (nI (c0 + ct (tb x') (i + 1)), nI (i + 1), sa (si M 24 (drw u)) 0 (upd g (182 + 60 * f + i) (b1 v))), rfl, ?_, x', y', drw u, upd g (182 + 60 * f + i) (b1 v), rfl, rfl, ?_, fun k hk => ?_, fun k hk => ?_, fun k hk => ?_⟩
        · unfold fX11_feels_J90 fX11_feels_J111 lt_
          dsimp only
          rw [tRow, gd_pos (inbn (by omega) (by decide)), gd_pos (inbn (by omega) (by decide)), nI_clamp (by omega), nI_1, ect]
          have es : ∀ w, sa (si (sa (si M 24 u) 0 g) 24 (drw u)) 0 (upd (ga (si (sa (si M 24 u) 0 g) 24 (drw u)) 0) (182 + 60 * f + i) w) = sa (si M 24 (drw u)) 0 (upd g (182 + 60 * f + i) w) := by
            intro w
            show sa (sa (si (si M 24 u) 24 (drw u)) 0 g) 0 (upd g (182 + 60 * f + i) w) = _
            rw [si_si, sa_sa]
          rw [es, es]
          cases v with
          | true =>
            rw [if_neg (show ¬ b1 true = 0 by decide), if_neg (show ¬ b1 true = 0 by decide), nI_1]
            rfl
          | false =>
            rw [if_pos (show b1 false = 0 from rfl), if_pos (show b1 false = 0 from rfl), Int32.add_zero]
            rfl
        · have e2 : sa (si (sa (si M 24 u) 0 g) 24 (drw u)) 0 (upd (ga (si (sa (si M 24 u) 0 g) 24 (drw u)) 0) (182 + 60 * f + i) (b1 v)) = sa (si M 24 (drw u)) 0 (upd g (182 + 60 * f + i) (b1 v)) := by
            show sa (sa (si (si M 24 u) 24 (drw u)) 0 g) 0 (upd g (182 + 60 * f + i) (b1 v)) = _
            rw [si_si, sa_sa]
          rw [e2] at rb2
          exact rb2
        · rw [bz k hk, hy k hk, bx k hk]
          by_cases q : k = i
          · rw [if_pos q, if_pos (by omega), if_pos q]
          · rw [if_neg q, if_neg q]
            by_cases q2 : k < i
            · rw [if_pos q2, if_pos (by omega)]
            · rw [if_neg q2, if_neg (by omega)]
        · by_cases q : k < 64
          · rw [bx k q, if_neg (by omega)]; exact hx k (by omega)
          · exact tb_ge (by omega)
        · rw [upd_ne _ _ (by omega)]; exact fr k hk
      cases due b f i with
      | false =>
        rw [if_pos (show b1L false = 0 from rfl), if_pos trivial, if_pos (show b1 false = 0 from rfl)]
        by_cases c : nI (fs b f) ≤ drv u
        · rw [if_pos c, if_pos c]; exact fin false
        · rw [if_neg c, if_neg c]; exact fin true
      | true =>
        rw [if_neg (show ¬ b1L true = 0 by decide), if_neg (show ¬ (1 : Int32) = 0 by decide), if_neg (show ¬ b1 true = 0 by decide)]
        by_cases c : drv u < nI (fl b f)
        · rw [if_pos c, if_pos c]; exact fin false
        · rw [if_neg c, if_neg c]; exact fin true) (fun s t h => by
      obtain ⟨x, y, u, g, rfl, rfl, rb, hy, hx, fr⟩ := h
      have em : ga (sa (si M 24 u) 0 g) 0 (1 : Int32).toNatClampNeg = nI (cD b) := many_eq (b := rowB b f y) rb
      have e : y = x := tb_ext (fun k hk => by
        rw [hy k hk]
        by_cases q : k < cD b
        · rw [if_pos q]
        · rw [if_neg q, hx k (by omega)]
          exact (hR.1.2.2.1 f hf).2.2.2.2.2 k (by omega))
      subst e
      unfold fX0_feelBy_L22 fX11_feels_L16
      dsimp only
      rw [em, hR.1.2.1.1, if_pos (ple (by omega)), if_pos (ple (by omega))]
      exact ⟨_, _, rfl, rfl, y, u, g, rfl, rfl, rb, hx, fr⟩) (cD b) 0 ((0 : Int64), (0 : Int32), dr) (nI c0, (0 : Int32), M) (by omega) ⟨0, gb b 6 f, gi dr 0, ga M 0, by rw [si_id dr 0 rfl]; rfl, by rw [hs, si_id M 24 rfl, sa_id]; rfl, by rw [hs, si_id M 24 rfl, sa_id]; exact hb0, fun k hk => by rw [if_neg (by omega)]; rfl, fun k _ => tb_zero k, fun _ _ => rfl⟩
  exact ⟨x, s, g, l1, l2, rb, fr⟩
theorem feels_eq {b M : Rc} {n : Nat} (hR : RB b M 0 n) {dr : Rc} (hs : gi dr 0 = gi M 24) : ∃ (b' : Rc) (s : Int32) (g : Nat → Int32), fX0_feelBy b dr = some (b', si dr 0 s) ∧ fX11_feels M = some (nI (tot b' (cF b')), sa (si M 24 s) 0 g) ∧ RB b' (sa (si M 24 s) 0 g) 0 n ∧ cF b' = cF b ∧ cD b' = cD b ∧ (∀ k, (k = 3 ∨ 670 ≤ k) → g k = ga M 0 k) := by
  have hF : cF b ≤ 8 := hR.1.1.2
  have hD : cD b ≤ 60 := hR.1.2.1.2
  obtain ⟨r, k, l1, l2, b', s, g, rfl, rfl, q1, q2, q3, q4⟩ := loop_rel (b := fX0_feelBy_L2) (c := fX11_feels_L4) (fun i z t => ∃ (b' : Rc) (u : Int32) (g : Nat → Int32), z = (nI i, b', si dr 0 u) ∧ t = (nI (tot b' i), nI i, sa (si M 24 u) 0 g) ∧ RB b' (sa (si M 24 u) 0 g) 0 n ∧ cF b' = cF b ∧ cD b' = cD b ∧ (∀ k, (k = 3 ∨ 670 ≤ k) → g k = ga M 0 k)) (fun r t => ∃ (b' : Rc) (u : Int32) (g : Nat → Int32), r = (b', si dr 0 u) ∧ t = (nI (tot b' (cF b')), sa (si M 24 u) 0 g) ∧ RB b' (sa (si M 24 u) 0 g) 0 n ∧ cF b' = cF b ∧ cD b' = cD b ∧ (∀ k, (k = 3 ∨ 670 ≤ k) → g k = ga M 0 k)) (cF b) (fun i z t hi h => by
      obtain ⟨b', u, g, rfl, rfl, rb, c1, c2, fr⟩ := h
      left
      have hi' : i < cF b' := by omega
      obtain ⟨du, d1, d2⟩ := due_eq rb.1 hi'
      obtain ⟨x, s, g2, w1, w2, w3, w4⟩ := feel_row rb hi' (dr := si dr 0 u) rfl d2 (tot b' i)
      have ef : ga (sa (si M 24 u) 0 g) 0 (0 : Int32).toNatClampNeg = nI (cF b') := frms_eq rb
      unfold fX0_feelBy_L2 fX11_feels_L4 lt_
      dsimp only
      rw [ef, rb.1.1.1, if_neg (nI_ge hi' (by omega)), if_neg (nI_ge hi' (by omega)), d1, w2]
      dsimp only [Option.bind]
      rw [w1]
      dsimp only
      rw [gd_pos (inbn (by omega) (by decide)), nI_clamp (by omega), nI_1, si_si]
      have et : tot (rowB b' i x) (i + 1) = tot b' i + ct (tb x) (cD b') := by
        rw [tot_succ, tot_cong (b := b') (b' := rowB b' i x) rfl (fun f hf => by
          show vp_updL (gb b' 6) i x f = _
          unfold vp_updL
          rw [if_neg (by omega)])]
        congr 1
        exact ct_cong (fun k _ => rowB_tw b' i x k)
      have es : sa (si (sa (si M 24 u) 0 g) 24 s) 0 g2 = sa (si M 24 s) 0 g2 := by
        show sa (sa (si (si M 24 u) 24 s) 0 g) 0 g2 = _
        rw [si_si, sa_sa]
      rw [es] at w3
      rw [es, ← et]
      exact ⟨_, _, rfl, rfl, rowB b' i x, s, g2, rfl, rfl, w3, c1, c2, fun k hk => (w4 k hk).trans (fr k hk)⟩) (fun z t h => by
      obtain ⟨b', u, g, rfl, rfl, rb, c1, c2, fr⟩ := h
      have ef : ga (sa (si M 24 u) 0 g) 0 (0 : Int32).toNatClampNeg = nI (cF b') := frms_eq rb
      unfold fX0_feelBy_L2 fX11_feels_L4
      dsimp only
      rw [ef, rb.1.1.1, c1, if_pos (nI_le (Nat.le_refl _) (by omega)), if_pos (nI_le (Nat.le_refl _) (by omega))]
      exact ⟨_, _, rfl, rfl, b', u, g, rfl, by rw [c1], rb, c1, c2, fr⟩) (cF b) 0 ((0 : Int32), b, dr) ((0 : Int32), (0 : Int32), M) (by omega) ⟨b, gi dr 0, ga M 0, by rw [si_id dr 0 rfl]; rfl, by rw [hs, si_id M 24 rfl, sa_id]; rfl, by rw [hs, si_id M 24 rfl, sa_id]; exact hR, rfl, rfl, fun _ _ => rfl⟩
  refine ⟨b', s, g, ?_, ?_, q1, q2, q3, q4⟩
  · unfold fX0_feelBy
    rw [l1]; rfl
  · unfold fX11_feels
    rw [l2]; rfl
theorem b_feel : BT_feel Rel := by
  intro sg M hR p1
  have hb := hR.2.1
  unfold fX10_feel fX11_feel
  rcases rng_cases p1 0 9999 (lo' := 0) (hi' := 9999) rfl rfl with ⟨-, -, e3, e4⟩ | ⟨-, e3, e4⟩
  · rw [e3, e4, i00, i10]
    unfold lt_ fX2_begin lt_
    dsimp only
    have hb1 : RB (sg 1) (si M 24 p1) 0 0 := hb
    obtain ⟨b', s, g, a1, a2, a3, a4, a5, a6⟩ := feels_eq hb1 (dr := si (sg 22) 0 p1) rfl
    rw [a1, a2]
    dsimp only [Option.bind]
    rw [allTw_eq a3.1]
    refine ⟨_, _, rfl, rfl, rfl, ?_⟩
    have r := rel_bench hR (M' := sa (si (si M 24 p1) 24 s) 0 g) a3 a4 a6 ⟨rfl, rfl, rfl, rfl, rfl, rfl, rfl, rfl, rfl, rfl, rfl, rfl, rfl, rfl, rfl, rfl, rfl⟩ 0
    obtain ⟨h1, h2, h3, h4, h5, h6, h7, h8, h9, h10⟩ := r
    exact ⟨h1, h2, h3, h4, h5, h6, h7, h8, h9, h10⟩
  · rw [e3, e4, i10, i00]
    refine ⟨_, _, rfl, rfl, rfl, ?_⟩
    obtain ⟨h1, h2, h3, h4, h5, h6, h7, h8, h9, h10⟩ := hR
    exact ⟨st_eq h1 1, h2, h3, h4, h5, h6, h7, h8, h9, h10⟩
