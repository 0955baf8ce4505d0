/-! ===== (B) a season is lived: one step ===== -/
/-- both lives, side by side: M0 is the reference as it was at first -/
def LR (M0 : Rc) (F nm : Nat) (lf dr b M : Rc) : Prop := RB b M 0 nm ∧ cF b = F ∧ gi dr 0 = gi M 24 ∧ (gi lf 2 = gi M 32 ∧ gi lf 3 = ga M 34 0 ∧ gi lf 4 = ga M 34 1 ∧ gi lf 5 = ga M 34 2 ∧ gi lf 6 = 0 ∧ ga M 34 3 = 0) ∧ (∀ k, (k = 3 ∨ 670 ≤ k) → ga M 0 k = ga M0 0 k) ∧ Fx M0 M ∧ gi M 2 = gi M0 2
/-- what comes of a step in the reference: missed, or not -/
def ms (T : Rc) (old : Int32) (v : Bool) : Rc := sa T 34 (upd (ga T 34) 0 (old + b1 (!v)))
/-- the step's doings, on both sides -/
def SD (M0 : Rc) (F nm : Nat) (M1 : Rc) (lf1 : Rc) (c : Option (Rc × Rc × Rc)) (m : Option (Int32 × Rc)) : Prop := ∃ (lf' dr' b' T : Rc) (v : Bool), c = some (lf', dr', b') ∧ m = some (b1 v, T) ∧ LR M0 F nm lf' dr' b' (ms T (ga M1 34 0) v) ∧ ga lf' 1 = ga lf1 1 ∧ ga T 33 = ga M1 33 ∧ gi lf' 2 = gi lf1 2
theorem fx_32 (M : Rc) (v : Int32) : Fx M (si M 32 v) := ⟨rfl, rfl, rfl, rfl, rfl, rfl, rfl, rfl, rfl, rfl, rfl, rfl, rfl, rfl, rfl, rfl, rfl⟩
theorem fx_33 (M : Rc) (g : Nat → Int32) : Fx M (sa M 33 g) := ⟨rfl, rfl, rfl, rfl, rfl, rfl, rfl, rfl, rfl, rfl, rfl, rfl, rfl, rfl, rfl, rfl, rfl⟩
theorem fx_34 (M : Rc) (g : Nat → Int32) : Fx M (sa M 34 g) := ⟨rfl, rfl, rfl, rfl, rfl, rfl, rfl, rfl, rfl, rfl, rfl, rfl, rfl, rfl, rfl, rfl, rfl⟩
theorem LR_25 {M0 lf dr b M : Rc} {F nm : Nat} (h : LR M0 F nm lf dr b M) (h25 : gi M0 25 = -1) (h26 : gi M0 26 = 0) : gi M 25 = -1 ∧ gi M 26 = 0 := ⟨h.2.2.2.2.2.1.2.2.2.1.trans h25, h.2.2.2.2.2.1.2.2.2.2.1.trans h26⟩
theorem add0 (x : Int32) : x + b1 (!true) = x := Int32.add_zero x
/-- nothing counted is missed: the bench and the draws alone change -/
theorem LR_bench {M0 lf dr b M : Rc} {F nm : Nat} (h : LR M0 F nm lf dr b M) {b' dr' : Rc} {s : Int32} {g : Nat → Int32} (hb : RB b' (sa (si M 24 s) 0 g) 0 nm) (hc : cF b' = cF b) (hs : gi dr' 0 = s) (hg : ∀ k, (k = 3 ∨ 670 ≤ k) → g k = ga M 0 k) : LR M0 F nm lf dr' b' (ms (sa (si M 24 s) 0 g) (ga M 34 0) true) := by
  obtain ⟨h1, h2, h3, ⟨h4, h5, h6, h7, h8, h9⟩, h10, h11, h12⟩ := h
  refine ⟨hb, hc.trans h2, hs, ⟨h4, ?_, ?_, ?_, h8, ?_⟩, fun k hk => (hg k hk).trans (h10 k hk), ?_, h12⟩
  · show gi lf 3 = upd (ga M 34) 0 (ga M 34 0 + b1 (!true)) 0
    rw [upd_eq, add0]; exact h5
  · show gi lf 4 = upd (ga M 34) 0 (ga M 34 0 + b1 (!true)) 1
    rw [upd_ne _ _ (by decide)]; exact h6
  · show gi lf 5 = upd (ga M 34) 0 (ga M 34 0 + b1 (!true)) 2
    rw [upd_ne _ _ (by decide)]; exact h7
  · show upd (ga M 34) 0 (ga M 34 0 + b1 (!true)) 3 = 0
    rw [upd_ne _ _ (by decide)]; exact h9
  · exact fx_trans h11 ⟨rfl, rfl, rfl, rfl, rfl, rfl, rfl, rfl, rfl, rfl, rfl, rfl, rfl, rfl, rfl, rfl, rfl⟩
theorem LR_bench0 {M0 lf dr b M : Rc} {F nm : Nat} (h : LR M0 F nm lf dr b M) {b' : Rc} {g : Nat → Int32} (hb : RB b' (sa M 0 g) 0 nm) (hc : cF b' = cF b) (hg : ∀ k, (k = 3 ∨ 670 ≤ k) → g k = ga M 0 k) : LR M0 F nm lf dr b' (ms (sa M 0 g) (ga M 34 0) true) := by
  have e : si M 24 (gi M 24) = M := si_id M 24 rfl
  have := LR_bench h (b' := b') (dr' := dr) (s := gi M 24) (g := g) (by rw [e]; exact hb) hc h.2.2.1 hg
  rw [e] at this
  exact this
/-- missed -/
theorem LR_miss {M0 lf dr b M : Rc} {F nm : Nat} (h : LR M0 F nm lf dr b M) : LR M0 F nm (si lf 3 (gi lf 3 + 1)) dr b (ms M (ga M 34 0) false) := by
  obtain ⟨h1, h2, h3, ⟨h4, h5, h6, h7, h8, h9⟩, h10, h11, h12⟩ := h
  refine ⟨h1, h2, h3, ⟨h4, ?_, ?_, ?_, h8, ?_⟩, h10, ?_, h12⟩
  · show gi lf 3 + 1 = upd (ga M 34) 0 (ga M 34 0 + b1 (!false)) 0
    rw [upd_eq, h5]; rfl
  · show gi lf 4 = upd (ga M 34) 0 (ga M 34 0 + b1 (!false)) 1
    rw [upd_ne _ _ (by decide)]; exact h6
  · show gi lf 5 = upd (ga M 34) 0 (ga M 34 0 + b1 (!false)) 2
    rw [upd_ne _ _ (by decide)]; exact h7
  · show upd (ga M 34) 0 (ga M 34 0 + b1 (!false)) 3 = 0
    rw [upd_ne _ _ (by decide)]; exact h9
  · exact fx_trans h11 (fx_34 _ _)
theorem LR_draw {M0 lf dr b M : Rc} {F nm : Nat} (h : LR M0 F nm lf dr b M) : LR M0 F nm lf (si dr 0 (drw (gi dr 0))) b (si M 24 (drw (gi M 24))) := by
  obtain ⟨h1, h2, h3, h4, h10, h11, h12⟩ := h
  refine ⟨h1, h2, ?_, h4, h10, fx_trans h11 (fx_24 _ _), h12⟩
  show drw (gi dr 0) = drw (gi M 24)
  rw [h3]
theorem day_step {M0 lf dr b M : Rc} {F nm : Nat} (h : LR M0 F nm lf dr b M) {w : Nat} (hw : w ≤ 2) : ∃ (lf' b' T : Rc) (v : Bool), fX3_addDay (nI w) lf b = (lf', b') ∧ fX11_dayComes (nI w) M = some (b1 v, T) ∧ LR M0 F nm lf' dr b' (ms T (ga M 34 0) v) ∧ ga lf' 1 = ga lf 1 ∧ ga T 33 = ga M 33 ∧ gi lf' 2 = gi lf 2 := by
  have hR := h.1
  have hD : cD b ≤ 60 := hR.1.2.1.2
  rcases Nat.lt_or_ge (cD b) 60 with q | q
  · obtain ⟨g, d1, d2, d3, d4⟩ := dawns_eq hR q hw
    have ca : fX0_canAddDay b = 1 := by
      unfold fX0_canAddDay
      rw [hR.1.2.1.1, if_neg (show ¬ (60 : Int32) ≤ nI (cD b) from nI_ge (b := 60) q (by decide))]
    have ad := addDay_eq hR.1 q hw
    obtain ⟨h1, h2, h3, ⟨h4, h5, h6, h7, h8, h9⟩, h10, h11, h12⟩ := h
    unfold fX3_addDay fX11_dayComes lt_
    rw [ca, i10, d1]
    dsimp only [Option.bind]
    rw [i10]
    have c12 : (1 : Int32).toNatClampNeg = 1 := rfl
    have c22 : (2 : Int32).toNatClampNeg = 2 := rfl
    rw [c12, c22]
    have fin : ∀ (z : Bool) (lf' T : Rc), lf' = si (si lf 4 (gi lf 4 + 1)) 5 (gi (si lf 4 (gi lf 4 + 1)) 5 + b1 z) → T = sa (sa (sa M 0 g) 34 (upd (ga (sa M 0 g) 34) 1 (ga (sa M 0 g) 34 1 + 1))) 34 (upd (ga (sa (sa M 0 g) 34 (upd (ga (sa M 0 g) 34) 1 (ga (sa M 0 g) 34 1 + 1))) 34) 2 (ga (sa (sa M 0 g) 34 (upd (ga (sa M 0 g) 34) 1 (ga (sa M 0 g) 34 1 + 1))) 34 2 + b1 z)) → LR M0 F nm lf' dr (fX0_addDay (nI w) b) (ms T (ga M 34 0) true) ∧ ga lf' 1 = ga lf 1 ∧ ga T 33 = ga M 33 ∧ gi lf' 2 = gi lf 2 := by
      intro z lf' T e1 e2
      subst e1 e2
      refine ⟨⟨d2, (AD_c ad q).1.trans h2, h3, ⟨h4, ?_, ?_, ?_, h8, ?_⟩, fun k hk => (d3 k hk).trans (h10 k hk), ?_, h12⟩, rfl, rfl, rfl⟩
      · show gi lf 3 = upd (upd (upd (ga M 34) 1 (ga M 34 1 + 1)) 2 (upd (ga M 34) 1 (ga M 34 1 + 1) 2 + b1 z)) 0 (ga M 34 0 + b1 (!true)) 0
        rw [upd_eq, add0]; exact h5
      · show gi lf 4 + 1 = upd (upd (upd (ga M 34) 1 (ga M 34 1 + 1)) 2 (upd (ga M 34) 1 (ga M 34 1 + 1) 2 + b1 z)) 0 (ga M 34 0 + b1 (!true)) 1
        rw [upd_ne _ _ (by decide), upd_ne _ _ (by decide), upd_eq, h6]
      · show gi lf 5 + b1 z = upd (upd (upd (ga M 34) 1 (ga M 34 1 + 1)) 2 (upd (ga M 34) 1 (ga M 34 1 + 1) 2 + b1 z)) 0 (ga M 34 0 + b1 (!true)) 2
        rw [upd_ne _ _ (by decide), upd_eq, upd_ne _ _ (by decide), h7]
      · show upd (upd (upd (ga M 34) 1 (ga M 34 1 + 1)) 2 (upd (ga M 34) 1 (ga M 34 1 + 1) 2 + b1 z)) 0 (ga M 34 0 + b1 (!true)) 3 = 0
        rw [upd_ne _ _ (by decide), upd_ne _ _ (by decide), upd_ne _ _ (by decide)]; exact h9
      · exact fx_trans h11 ⟨rfl, rfl, rfl, rfl, rfl, rfl, rfl, rfl, rfl, rfl, rfl, rfl, rfl, rfl, rfl, rfl, rfl⟩
    rcases Nat.eq_zero_or_pos w with rfl | hw0
    · rw [if_pos (show nI 0 = 0 from rfl), if_pos (show nI 0 ≤ 0 by decide)]
      exact ⟨_, _, _, true, rfl, rfl, fin false _ _ rfl rfl⟩
    · rw [if_neg (nI_ne0 hw0 (by omega)), if_neg (nI_nle hw0 (by omega))]
      exact ⟨_, _, _, true, rfl, rfl, fin true _ _ rfl rfl⟩
  · have e60 : cD b = 60 := by omega
    have ca : fX0_canAddDay b = 0 := by
      unfold fX0_canAddDay
      rw [hR.1.2.1.1, e60]; rfl
    have da : fX11_dawns (nI w) M = some ((0 : Int32), M) := by
      unfold fX11_dawns
      rw [many_eq hR, e60]; rfl
    unfold fX3_addDay fX11_dayComes
    rw [ca, i00, da]
    exact ⟨_, _, _, false, rfl, rfl, LR_miss h, rfl, rfl, rfl⟩
theorem st_in {k j : Nat} (hk : k < 60) (hj : j < 6) : ((670 : Int32) + ((6 : Int32) * nI k)) + nI j = nI (670 + 6 * k + j) := by rw [show (670 : Int32) = nI 670 from rfl, show (6 : Int32) = nI 6 from rfl, nI_mul, nI_add, nI_add]
theorem st_i0 {k : Nat} : ((670 : Int32) + ((6 : Int32) * nI k)) = nI (670 + 6 * k) := by rw [show (670 : Int32) = nI 670 from rfl, show (6 : Int32) = nI 6 from rfl, nI_mul, nI_add]
/-- the doings of a step that neither holds others nor stops -/
theorem does_eq {M0 lf dr b M z : Rc} {F nm n k : Nat} (h : LR M0 F nm lf dr b M) (h25 : gi M 25 = -1) (h26 : gi M 26 = 0) (hk : k < 60) (hz : ZR z b M 0 n k) (hk1 : ¬ opn z k) (hk2 : ¬ ga z 0 k = 28) (hk3 : ¬ ga z 0 k = 29) : SD M0 F nm M lf (fX3_doStep (nI k) lf dr b z) (fX11_does (nI (670 + 6 * k)) M) := by
  have hR := h.1
  have hF : cF b ≤ 8 := hR.1.1.2
  have hD : cD b ≤ 60 := hR.1.2.1.2
  obtain ⟨z0, zk, -, -⟩ := hz
  unfold ZN ZF ZG at zk
  simp only [Nat.zero_add] at z0 zk
  have i1 : nI (670 + 6 * k) + (1 : Int32) = nI (670 + 6 * k + 1) := nI_1 _
  have i2 : nI (670 + 6 * k) + (2 : Int32) = nI (670 + 6 * k + 2) := nI_add _ 2
  unfold fX3_doStep fX11_does lt_
  simp only [i1, i2, gd_pos (inbn (k := k) (n := 60) hk (by decide)), gd_pos (inbn (k := 670 + 6 * k) (n := 6240) (by omega) (by decide)), gd_pos (inbn (k := 670 + 6 * k + 1) (n := 6240) (by omega) (by decide)), gd_pos (inbn (k := 670 + 6 * k + 2) (n := 6240) (by omega) (by decide)), nI_clamp (show k < 2 ^ 31 by omega), nI_clamp (show 670 + 6 * k < 2 ^ 31 by omega), nI_clamp (show 670 + 6 * k + 1 < 2 ^ 31 by omega), nI_clamp (show 670 + 6 * k + 2 < 2 ^ 31 by omega), z0]
  have num : ∀ {a c : Int} {x : Int32}, 0 ≤ a → nr x a c → ∃ d : Nat, (d : Int) ≤ c ∧ a ≤ (d : Int) ∧ x = nI d := fun {a c x} ha hx => ⟨x.toInt.toNat, by unfold nr at hx; omega, by unfold nr at hx; omega, i_nat (by unfold nr at hx; omega)⟩
  have frm : ff z b k → ∃ f : Nat, f < cF b ∧ ga z 1 k = nI f := fun hx => ⟨(ga z 1 k).toInt.toNat, by unfold ff at hx; omega, i_nat hx.1⟩
  have nl : ∀ m : Nat, m < 2000 → ¬ nI m < 0 := fun m hm => by rw [i_lt, nI_toInt (by omega), i_0]; omega
  rcases zk with ⟨e, zn, hn⟩ | e | e | e | ⟨e, zf, hf, zn, hn⟩ | ⟨e, zf, hf, zn, hn⟩ | ⟨e, zf, hf, zn, hn⟩ | ⟨e, zn, hn⟩ | ⟨e, -⟩ | ⟨e, -⟩ | ⟨e, -⟩ | ⟨e, -⟩ | e | e
  · -- rain
    rw [e, zn, show kmap 14 = 14 from rfl, if_pos rfl, if_pos rfl, drawC, drawM]
    dsimp only [Option.bind]
    have hd := LR_draw h
    rw [h.2.2.1] at hd ⊢
    by_cases c : ga z 3 k ≤ drv (gi M 24)
    · rw [if_pos c, if_pos c]
      obtain ⟨lf', b', T, v, q1, q2, q3, q4, q5, q6⟩ := day_step hd (w := 0) (by omega)
      rw [show (0 : Int32) = nI 0 from rfl, q1, q2]
      exact ⟨lf', _, b', T, v, rfl, rfl, q3, q4, q5, q6⟩
    · rw [if_neg c, if_neg c]
      obtain ⟨lf', b', T, v, q1, q2, q3, q4, q5, q6⟩ := day_step hd (w := 1) (by omega)
      rw [show (1 : Int32) = nI 1 from rfl, q1, q2]
      exact ⟨lf', _, b', T, v, rfl, rfl, q3, q4, q5, q6⟩
  · -- dry
    rw [e, show kmap 15 = 16 from rfl, if_neg (by decide), if_pos rfl, if_neg (by decide), if_neg (by decide), if_pos rfl]
    obtain ⟨lf', b', T, v, q1, q2, q3, q4, q5, q6⟩ := day_step h (w := 0) (by omega)
    rw [show (0 : Int32) = nI 0 from rfl, q1, q2]
    exact ⟨lf', _, b', T, v, rfl, rfl, q3, q4, q5, q6⟩
  · -- hail
    rw [e, show kmap 16 = 15 from rfl, if_neg (by decide), if_neg (by decide), if_pos rfl, if_neg (by decide), if_pos rfl]
    obtain ⟨lf', b', T, v, q1, q2, q3, q4, q5, q6⟩ := day_step h (w := 2) (by omega)
    rw [show (2 : Int32) = nI 2 from rfl, q1, q2]
    exact ⟨lf', _, b', T, v, rfl, rfl, q3, q4, q5, q6⟩
  · -- feel
    rw [e, show kmap 17 = 17 from rfl, if_neg (by decide), if_neg (by decide), if_neg (by decide), if_pos rfl, if_neg (by decide), if_neg (by decide), if_neg (by decide), if_pos rfl]
    obtain ⟨b', s, g, a1, a2, a3, a4, a5, a6⟩ := feels_eq hR h.2.2.1
    have ht := tot_le b' (by omega) (cF b')
    rw [a1, a2]
    dsimp only [Option.bind]
    rw [if_neg (nl _ (by omega))]
    exact ⟨lf, _, b', _, true, rfl, rfl, LR_bench h a3 a4 rfl a6, rfl, rfl, rfl⟩
  · -- lie
    rw [e, zf, zn, show kmap 18 = 18 from rfl, if_neg (by decide), if_neg (by decide), if_neg (by decide), if_neg (by decide), if_neg (by decide), if_neg (by decide), if_neg (by decide), if_neg (by decide), if_neg (by decide), if_neg (by decide), if_pos rfl]
    obtain ⟨d, d1, d2, d3⟩ := num (by decide) hn
    obtain ⟨f, f1, f2⟩ := frm hf
    unfold fX3_lookBack lt_
    dsimp only
    rw [gd_pos (inbn hk (by decide)), nI_clamp (by omega), d3, f2, e, day_is hR, nI_toInt (by omega), hR.1.2.1.1]
    rcases Nat.lt_or_ge d (cD b) with q | q
    · rw [decide_eq_true (by omega), if_neg (show ¬ b1 true = 0 by decide), if_pos (n_lt q (by omega)), if_pos rfl, turn_eq hR.1.1.1 hF f1, turns_eq hR f1 q]
      dsimp only [Option.bind]
      rw [if_neg (show ¬ b1 (!tw b f d) < 0 by cases tw b f d <;> decide)]
      exact ⟨lf, dr, _, _, true, rfl, rfl, LR_bench0 h (rb_tw hR f1 q (tb_flip (b := b) (f := f) (d := d) (by omega))) rfl (fun k hk => upd_ne _ _ (by omega)), rfl, rfl, rfl⟩
    · rw [decide_eq_false (by omega), if_pos (show b1 false = 0 from rfl), if_neg (n_nlt q (by omega))]
      exact ⟨_, dr, b, M, false, rfl, rfl, LR_miss h, rfl, rfl, rfl⟩
  · -- cure
    rw [e, zf, zn, show kmap 20 = 19 from rfl, if_neg (by decide), if_neg (by decide), if_neg (by decide), if_neg (by decide), if_pos rfl, if_neg (by decide), if_neg (by decide), if_neg (by decide), if_neg (by decide), if_neg (by decide), if_pos rfl]
    obtain ⟨f, f1, f2⟩ := frm hf
    rw [f2, cure_on hR.1.1.1 hF f1, fRowk f 4 4 rfl, gd_pos (inbn (by omega) (by decide)), nI_clamp (by omega)]
    dsimp only [Option.bind]
    exact ⟨lf, dr, _, _, true, rfl, rfl, LR_bench0 h (rb_cure hR f1 hn.1 hn.2) rfl (fun k hk => upd_ne _ _ (by omega)), rfl, rfl, rfl⟩
  · -- brandy
    rw [e, zf, zn, show kmap 21 = 20 from rfl, if_neg (by decide), if_neg (by decide), if_neg (by decide), if_neg (by decide), if_neg (by decide), if_pos rfl, if_neg (by decide), if_neg (by decide), if_neg (by decide), if_neg (by decide), if_neg (by decide), if_neg (by decide), if_pos rfl]
    obtain ⟨f, f1, f2⟩ := frm hf
    rw [f2, set_false hR.1.1.1 hF f1, fRowk f 2 2 rfl, gd_pos (inbn (by omega) (by decide)), nI_clamp (by omega)]
    dsimp only [Option.bind]
    exact ⟨lf, dr, _, _, true, rfl, rfl, LR_bench0 h (rb_false hR f1 hn.1 hn.2) rfl (fun k hk => upd_ne _ _ (by omega)), rfl, rfl, rfl⟩
  · -- learn
    rw [e, zn, show kmap 22 = 21 from rfl, if_neg (by decide), if_neg (by decide), if_neg (by decide), if_neg (by decide), if_neg (by decide), if_neg (by decide), if_neg (by decide), if_neg (by decide), if_neg (by decide), if_neg (by decide), if_neg (by decide), if_neg (by decide), if_neg (by decide), if_pos rfl]
    obtain ⟨d, d1, d2, d3⟩ := num (by decide) hn
    unfold fX3_lookBack lt_
    dsimp only
    rw [gd_pos (inbn hk (by decide)), nI_clamp (by omega), d3, e, day_is hR, nI_toInt (by omega), hR.1.2.1.1]
    rcases Nat.lt_or_ge d (cD b) with q | q
    · obtain ⟨hh, b', g, a1, a2, a3, a4, a5, a6, a7⟩ := learn_eq hR h25 h26 q
      rw [decide_eq_true (by omega), if_neg (show ¬ b1 true = 0 by decide), if_pos (n_lt q (by omega)), if_neg (by decide), a1, a2]
      dsimp only [Option.bind]
      rw [if_neg (show ¬ hh < 0 by rw [i_lt, i_0]; omega)]
      exact ⟨lf, dr, _, _, true, rfl, rfl, LR_bench0 h a3 a4 a7, rfl, rfl, rfl⟩
    · rw [decide_eq_false (by omega), if_pos (show b1 false = 0 from rfl), if_neg (n_nlt q (by omega))]
      exact ⟨_, dr, b, M, false, rfl, rfl, LR_miss h, rfl, rfl, rfl⟩
  · exact absurd (Or.inl e) hk1
  · exact absurd (Or.inr (Or.inl e)) hk1
  · exact absurd (Or.inr (Or.inr (Or.inl e))) hk1
  · exact absurd (Or.inr (Or.inr (Or.inr e))) hk1
  · exact absurd e hk2
  · exact absurd e hk3
theorem cmp_01 (x s y : Int32) : (if fX3_compare x s y = (0 : Int32) then some (0 : Int32) else some (1 : Int32)) = some (fX3_compare x s y) := by
  have h : fX3_compare x s y = 0 ∨ fX3_compare x s y = 1 := by
    unfold fX3_compare
    repeat' split
    all_goals first | exact Or.inl rfl | exact Or.inr rfl
  rcases h with h | h
  · rw [h, i00]
  · rw [h, i10]
/-- whether a test holds -/
theorem holds_eq {b M z : Rc} {nm n k : Nat} (hR : RB b M 0 nm) (h25 : gi M 25 = -1) (h26 : gi M 26 = 0) (hk : k < 60) (hz : ZR z b M 0 n k) (hw : ga z 0 k = 24 ∨ ga z 0 k = 25 ∨ ga z 0 k = 26) : ∃ v : Bool, fX3_holds (nI k) b z = some (b1 v) ∧ fX11_holds (nI (670 + 6 * k)) M = some (b1 v) := by
  have hF : cF b ≤ 8 := hR.1.1.2
  have hD : cD b ≤ 60 := hR.1.2.1.2
  obtain ⟨z0, zk, -, -⟩ := hz
  unfold ZN ZF ZG at zk
  simp only [Nat.zero_add] at z0 zk
  have i1 : nI (670 + 6 * k) + (1 : Int32) = nI (670 + 6 * k + 1) := nI_1 _
  have i2 : nI (670 + 6 * k) + (2 : Int32) = nI (670 + 6 * k + 2) := nI_add _ 2
  have i5 : nI (670 + 6 * k) + (5 : Int32) = nI (670 + 6 * k + 5) := nI_add _ 5
  unfold fX3_holds fX11_holds lt_
  dsimp only
  rw [gd_pos (inbn hk (by decide)), gd_pos (inbn (by omega) (by decide)), nI_clamp (by omega), nI_clamp (by omega), z0, i1]
  have cmp : ∀ (x s y : Int32), ga M 0 (670 + 6 * k + 5) = s → ga M 0 (670 + 6 * k + 2) = y → ∃ v : Bool, fX3_compare x s y = b1 v ∧ fX11_holds_J73 (nI (670 + 6 * k)) M x = some (b1 v) := by
    intro x s y hs hy
    unfold fX3_compare fX11_holds_J73
    simp only [i2, i5, gd_pos (inbn (k := 670 + 6 * k + 2) (n := 6240) (by omega) (by decide)), gd_pos (inbn (k := 670 + 6 * k + 5) (n := 6240) (by omega) (by decide)), nI_clamp (show 670 + 6 * k + 2 < 2 ^ 31 by omega), nI_clamp (show 670 + 6 * k + 5 < 2 ^ 31 by omega), hs, hy]
    by_cases c1 : s = 60
    · rw [if_pos c1, if_pos c1]
      by_cases c2 : y ≤ x
      · rw [if_pos c2, if_pos c2]; exact ⟨false, rfl, rfl⟩
      · rw [if_neg c2, if_neg c2]; exact ⟨true, rfl, rfl⟩
    · rw [if_neg c1, if_neg c1]
      by_cases c3 : s = 62
      · rw [if_pos c3, if_pos c3]
        by_cases c2 : x ≤ y
        · rw [if_pos c2, if_pos c2]; exact ⟨false, rfl, rfl⟩
        · rw [if_neg c2, if_neg c2]; exact ⟨true, rfl, rfl⟩
      · rw [if_neg c3, if_neg c3]
        by_cases c2 : x = y
        · rw [if_pos c2, if_pos c2]; exact ⟨true, rfl, rfl⟩
        · rw [if_neg c2, if_neg c2]; exact ⟨false, rfl, rfl⟩
  rcases hw with e | e | e
  · obtain ⟨zn, hn⟩ : ga M 0 (670 + 6 * k + 1) = ga z 3 k ∧ nr (ga z 3 k) 0 62 := by
      rcases zk with ⟨e', -⟩ | e' | e' | e' | ⟨e', -⟩ | ⟨e', -⟩ | ⟨e', -⟩ | ⟨e', -⟩ | ⟨-, zn, hn⟩ | ⟨e', -⟩ | ⟨e', -⟩ | ⟨e', -⟩ | e' | e'
      all_goals first | exact ⟨zn, hn⟩ | (rw [e] at e'; exact absurd e' (by decide))
    rw [e, show kmap 24 - 2300 = 27 from rfl, if_pos rfl, if_pos rfl, gd_pos (inbn (by omega) (by decide)), nI_clamp (by omega), zn]
    obtain ⟨d, hd, e2⟩ : ∃ d : Nat, d ≤ 62 ∧ ga z 3 k = nI d := ⟨(ga z 3 k).toInt.toNat, by unfold nr at hn; omega, i_nat hn.1⟩
    rw [e2, verdictOf_eq hR.1 hd, say_eq hR h25 h26 hd]
    dsimp only [Option.bind]
    by_cases c : say b d = 1
    · rw [if_pos c]; exact ⟨true, rfl, rfl⟩
    · rw [if_neg c]; exact ⟨false, rfl, rfl⟩
  · obtain ⟨zf, hf, zn, zg⟩ : ga M 0 (670 + 6 * k + 1) = ga z 1 k ∧ ff z b k ∧ ga M 0 (670 + 6 * k + 2) = ga z 3 k ∧ ga M 0 (670 + 6 * k + 5) = ga z 2 k := by
      rcases zk with ⟨e', -⟩ | e' | e' | e' | ⟨e', -⟩ | ⟨e', -⟩ | ⟨e', -⟩ | ⟨e', -⟩ | ⟨e', -⟩ | ⟨-, zf, hf, zn, zg⟩ | ⟨e', -⟩ | ⟨e', -⟩ | e' | e'
      all_goals first | exact ⟨zf, hf, zn, zg⟩ | (rw [e] at e'; exact absurd e' (by decide))
    obtain ⟨f, f1, f2⟩ : ∃ f : Nat, f < cF b ∧ ga z 1 k = nI f := ⟨(ga z 1 k).toInt.toNat, by unfold ff at hf; omega, i_nat hf.1⟩
    have w5 := (fr_eq hR f1).2.2.2.2.2
    rw [e, show kmap 25 - 2300 = 28 from rfl, if_neg (by decide), if_pos rfl, f2, has_farmer hR.1.1.1 hF f1, if_neg (by decide), gd_pos (inbn (by omega) (by decide)), nI_clamp (by omega), cmp_01, if_neg (by decide), if_pos rfl, gd_pos (inbn (by omega) (by decide)), nI_clamp (by omega), zf, f2, fRowk f 5 5 rfl, gd_pos (inbn (by omega) (by decide)), nI_clamp (by omega), w5]
    obtain ⟨v, v1, v2⟩ := cmp (ga b 5 f) (ga z 2 k) (ga z 3 k) zg zn
    exact ⟨v, by rw [v1], v2⟩
  · obtain ⟨zn, zg⟩ : ga M 0 (670 + 6 * k + 2) = ga z 3 k ∧ ga M 0 (670 + 6 * k + 5) = ga z 2 k := by
      rcases zk with ⟨e', -⟩ | e' | e' | e' | ⟨e', -⟩ | ⟨e', -⟩ | ⟨e', -⟩ | ⟨e', -⟩ | ⟨e', -⟩ | ⟨e', -⟩ | ⟨-, zn, zg⟩ | ⟨e', -⟩ | e' | e'
      all_goals first | exact ⟨zn, zg⟩ | (rw [e] at e'; exact absurd e' (by decide))
    rw [e, show kmap 26 - 2300 = 29 from rfl, if_neg (by decide), if_neg (by decide), if_neg (by decide), if_neg (by decide), many_eq hR, hR.1.2.1.1]
    obtain ⟨v, v1, v2⟩ := cmp (nI (cD b)) (ga z 2 k) (ga z 3 k) zg zn
    exact ⟨v, by rw [v1], v2⟩
