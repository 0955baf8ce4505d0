/-! ===== (B) the fewest knees; lies ===== -/
theorem an_true {p : Nat → Bool} {i : Nat} (h : p i = true) : ∀ {n : Nat}, i < n → an p n = true := by
  intro n
  induction n with
  | zero => intro hi; exact absurd hi (Nat.not_lt_zero i)
  | succ n ih =>
    intro hi
    rw [an_succ]
    rcases Nat.lt_or_ge i n with q | q
    · rw [ih q]; rfl
    · rw [show n = i by omega, h, Bool.or_true]
theorem an_false {p : Nat → Bool} : ∀ {n : Nat}, an p n = false → ∀ i, i < n → p i = false := by
  intro n h i hi
  cases hp : p i with
  | false => rfl
  | true => rw [an_true hp hi] at h; cases h
def tl (b : Rc) (s d : Nat) : Bool := an (fun f => s.testBit f && ra b d f) (cF b)
def bad (b : Rc) (s : Nat) : Bool := an (fun d => wetB b d && !tl b s d) (cD b)
def enough (b : Rc) (s : Nat) (f : Int32) : Bool := !bad b s && !decide (f < nI (ct (fun d => tl b s d && !wetB b d) (cD b)))
theorem isEnoughC {b : Rc} (hB : BI b) {s : Nat} (hs : s < 256) (f : Int32) : fX0_isEnough (nI s) f b = some (b1 (enough b s f)) := by
  have hD : cD b ≤ 60 := hB.2.1.2
  obtain ⟨x, x1, x2⟩ := ofSet_eq hB hs
  unfold fX0_isEnough
  rw [x1]
  dsimp only [Option.bind]
  have c1 : fJ13_bitCount_95d88 (x &&& (gl b 10 ^^^ (-1))) = nI (ct (fun d => tl b s d && !wetB b d) (cD b)) := bc_ct (by omega) (fun k hk => by
    rw [tb_and, tb_not hk, x2 k hk]
    show ((dayB b k && tl b s k) && !wetB b k) = (dayB b k && _)
    cases dayB b k <;> rfl)
  have c2 : gl b 10 &&& (x ^^^ (-1)) = 0 ↔ bad b s = false := by
    constructor
    · intro h
      cases hb : bad b s with
      | false => rfl
      | true =>
        exfalso
        have : ∀ k, k < cD b → (wetB b k && !tl b s k) = false := by
          intro k hk
          have e := congrArg (fun z => tb z k) h
          rw [tb_zero, tb_and, tb_not (by omega), x2 k (by omega)] at e
          have e' : (wetB b k && !(dayB b k && tl b s k)) = false := e
          unfold dayB at e'
          rw [decide_eq_true hk, Bool.true_and] at e'
          exact e'
        have q : bad b s = false := by
          unfold bad
          rw [an_ct, ct_none this]; rfl
        rw [hb] at q; cases q
    · intro h
      apply tb_ext
      intro k hk
      rw [tb_zero, tb_and, tb_not hk, x2 k hk]
      show (wetB b k && !(dayB b k && tl b s k)) = false
      rcases Nat.lt_or_ge k (cD b) with q | q
      · have := an_false h k q
        unfold dayB
        rw [decide_eq_true q, Bool.true_and]
        exact this
      · rw [hB.2.2.2.1 k q]; rfl
  unfold enough
  cases hb : bad b s with
  | true =>
    rw [if_neg (fun z => by rw [c2.mp z] at hb; cases hb)]; rfl
  | false =>
    rw [if_pos (c2.mpr hb), c1]
    by_cases q : f < nI (ct (fun d => tl b s d && !wetB b d) (cD b))
    · rw [if_pos q, decide_eq_true q]; rfl
    · rw [if_neg q, decide_eq_false q]; rfl
theorem enough_in {b M : Rc} {n : Nat} (hb : RB b M 0 n) (h25 : gi M 25 = -1) (h26 : gi M 26 = 0) {s d : Nat} (hs : s < 256) (hd : d ≤ 62) (y : Int32) : loopF (fX11_isEnough_L22 (nI s) M (y, nI d)) ((0 : Int32), (0 : Int32)) = some (b1 (tl b s d)) := by
  have hF : cF b ≤ 8 := hb.1.1.2
  refine loopF_run (fun i => (b1 (an (fun f => s.testBit f && ra b d f) i), nI i)) (cF b) (fun i hi => ?_) ?_
  · unfold fX11_isEnough_L22
    dsimp only
    rw [frms_eq hb, if_neg (nI_ge hi (by omega)), mbit s hs i (by omega), tell_eq hb h25 h26 hi hd, nI_1, an_succ]
    unfold tv ra
    cases an (fun f => s.testBit f && (wd b f d == some true)) i with
    | true => rfl
    | false =>
      cases s.testBit i with
      | false => rfl
      | true =>
        cases wd b i d with
        | none => rfl
        | some w => cases w <;> rfl
  · unfold fX11_isEnough_L22
    dsimp only
    rw [frms_eq hb, if_pos (nI_le (Nat.le_refl _) (by omega))]
    rfl
theorem isEnoughM {b M : Rc} {n : Nat} (hb : RB b M 0 n) (h25 : gi M 25 = -1) (h26 : gi M 26 = 0) {s : Nat} (hs : s < 256) (f : Int32) : fX11_isEnough (nI s) f M = some (b1 (enough b s f)) := by
  have hD : cD b ≤ 60 := hb.1.2.1.2
  obtain ⟨r, l1, hr⟩ := loop_one (b := fX11_isEnough_L5 (nI s) M) (fun i z => z = (nI (ct (fun d => tl b s d && !wetB b d) i), nI i) ∧ an (fun d => wetB b d && !tl b s d) i = false) (fun r => (bad b s = true ∧ r = .inl ()) ∨ (bad b s = false ∧ r = .inr (nI (ct (fun d => tl b s d && !wetB b d) (cD b))))) (cD b) (fun i z hi h => by
      obtain ⟨rfl, ha⟩ := h
      unfold fX11_isEnough_L5 fX11_isEnough_J89
      dsimp only
      rw [many_eq hb, if_neg (n_ge hi hD), enough_in hb h25 h26 hs (by omega), isWet_eq hb hi, nI_1, ct_succ, an_succ, ha]
      cases hw : wetB b i with
      | true =>
        cases ht : tl b s i with
        | true =>
          left
          exact ⟨_, rfl, congrArg (fun z => (z, nI (i + 1))) (Int32.add_zero _), rfl⟩
        | false =>
          right
          exact ⟨_, rfl, Or.inl ⟨an_true (i := i) (by rw [hw, ht]; rfl) hi, rfl⟩⟩
      | false =>
        left
        cases ht : tl b s i with
        | true => exact ⟨_, rfl, congrArg (fun z => (z, nI (i + 1))) (nI_1 _), rfl⟩
        | false => exact ⟨_, rfl, congrArg (fun z => (z, nI (i + 1))) (Int32.add_zero _), rfl⟩) (fun z h => by
      obtain ⟨rfl, ha⟩ := h
      unfold fX11_isEnough_L5
      dsimp only
      rw [many_eq hb, if_pos (ple (by omega))]
      exact ⟨_, rfl, Or.inr ⟨ha, rfl⟩⟩) (cD b) 0 ((0 : Int32), (0 : Int32)) (by omega) ⟨rfl, rfl⟩
  unfold fX11_isEnough enough
  rw [l1]
  rcases hr with ⟨h1, rfl⟩ | ⟨h1, rfl⟩
  · rw [h1]; rfl
  · rw [h1]
    show (if f < nI (ct (fun d => tl b s d && !wetB b d) (cD b)) then _ else _) = _
    by_cases q : f < nI (ct (fun d => tl b s d && !wetB b d) (cD b))
    · rw [if_pos q, decide_eq_true q]; rfl
    · rw [if_neg q, decide_eq_false q]; rfl
theorem b_fewest : BT_fewest Rel := by
  intro sg M hR p1
  apply bt_q hR
  obtain ⟨hb, h25, h26⟩ := rel_b hR
  generalize sg 1 = b at *
  generalize sg 0 = kb at *
  have hD : cD b ≤ 60 := hb.1.2.1.2
  have hF : cF b ≤ 8 := hb.1.1.2
  unfold fX10_fewest fX11_fewest
  rcases rng_cases p1 0 60 (lo' := 0) (hi' := 60) rfl rfl with ⟨-, -, e3, e4⟩ | ⟨-, e3, e4⟩
  · simp only [e3, e4, i00, i10, if_true]
    have h2 : 2 ^ cF b ≤ 2 ^ 8 := Nat.pow_le_pow_right (by decide) hF
    obtain ⟨r, l1, l2, -⟩ := loop_two (b := fX0_fewestKnees_L4 p1 b) (c := fX11_fewest_L22 p1 M) (fun _ x => x = -1 ∨ ∃ m, m < 256 ∧ x = nI m) (fun _ => True) (a := 0) (N := 2 ^ cF b) (fun k x _ hk hx => by
        have step : ∀ x : Int32, (x = -1 ∨ ∃ m, m < 256 ∧ x = nI m) → ∃ y, fX0_fewestKnees_J30 p1 b (x, nI k) = some (Sum.inl (y, nI (k + 1))) ∧ fX11_fewest_J50 p1 M (x, nI k) = some (Sum.inl (y, nI (k + 1))) ∧ (y = -1 ∨ ∃ m, m < 256 ∧ y = nI m) := by
          intro x hx
          unfold fX0_fewestKnees_J30 fX11_fewest_J50
          dsimp only
          rw [isEnoughC hb.1 (by omega), isEnoughM hb h25 h26 (by omega), nI_1]
          cases enough b k p1
          · exact ⟨_, rfl, rfl, hx⟩
          · exact ⟨_, rfl, rfl, Or.inr ⟨k, by omega, rfl⟩⟩
        unfold fX0_fewestKnees_L4 fX11_fewest_L22
        dsimp only
        rw [hb.1.1.1, frms_eq hb, nx_one8 hF, if_neg (nI_ge hk (by omega)), if_neg (nI_ge hk (by omega))]
        by_cases c2 : x = -1
        · rw [if_pos c2, if_pos c2]
          exact step x hx
        · rw [if_neg c2, if_neg c2]
          rcases hx with hx | ⟨m, hm, rfl⟩
          · exact absurd hx c2
          · rw [bc32_all m hm, bc32_all k (by omega), bits_is hm, bits_is (show k < 256 by omega)]
            dsimp only [Option.bind]
            split
            · rw [nI_1]; exact ⟨_, rfl, rfl, Or.inr ⟨m, hm, rfl⟩⟩
            · exact step _ (Or.inr ⟨m, hm, rfl⟩)) (fun x _ => by
        unfold fX0_fewestKnees_L4 fX11_fewest_L22
        dsimp only
        rw [hb.1.1.1, frms_eq hb, nx_one8 hF, if_pos (nI_le (Nat.le_refl _) (by omega)), if_pos (nI_le (Nat.le_refl _) (by omega))]
        exact ⟨_, rfl, rfl, trivial⟩) (-1) (Nat.zero_le _) (Or.inl rfl)
    unfold fX0_fewestKnees
    rw [show ((-1 : Int32), (0 : Int32)) = ((-1 : Int32), nI 0) from rfl, l1, l2]
    exact qq_any _
  · simp only [e3, e4, i00, i10, if_true]
    exact qq_ref 1
/-! lies -/
def keptS (b : Rc) : Nat := ct (fun d => decide (say b d = b1 (wetB b d))) (cD b)
theorem keptC_S (b : Rc) : keptC b (gi b 12) 0 = keptS b := by
  unfold keptC keptS
  apply ct_cong
  intro d _
  have : sayV (gi b 12) (wgt b) (fun f => te b d f && !(0 : Nat).testBit f) (fun f => ra b d f && !(0 : Nat).testBit f) (cF b) = say b d := sayV_cong (fun f _ => by simp) (fun f _ => by simp)
  rw [this]
theorem keptOf_S {b M : Rc} {n : Nat} (hR : RB b M 0 n) (h25 : gi M 25 = -1) (h26 : gi M 26 = 0) : fX11_keptOf M = some (nI (keptS b)) := by
  rw [keptOf_eq hR h26, h25, keptM_no hR.1.1.2, keptC_S]
def flp (b : Rc) (f d : Nat) : Rc := sb b 6 (vp_updL (gb b 6) f (gb b 6 f ^^^ ((1 : Int64) <<< ((nI d).toInt64 &&& 63))))
theorem flp_tw {b : Rc} {f d : Nat} (hd : d < 64) (g k : Nat) (hk : k < 64) : tw (flp b f d) g k = if g = f ∧ k = d then !tw b f d else tw b g k := by
  show tb (vp_updL (gb b 6) f _ g) k = _
  unfold vp_updL
  by_cases c : g = f
  · subst c
    rw [if_pos rfl, tb_flip hd k hk]
    by_cases q : k = d
    · rw [if_pos q, if_pos ⟨rfl, q⟩]
    · rw [if_neg q, if_neg (fun z => q z.2)]
  · rw [if_neg c, if_neg (fun z => c z.1)]; rfl
theorem fe_lt {b : Rc} {f d k : Nat} (h : fe b f d = some k) : k < cD b ∧ (k : Int) = (d : Int) - lagZ b f ∧ (k : Int) < curZ b f := by
  unfold fe at h
  split at h
  · rename_i hc
    have := Option.some.inj h
    omega
  · cases h
theorem say_flp_other {b : Rc} (hD : cD b ≤ 60) {f d' d : Nat} (hd' : d' < 60) (h : ¬ fe b f d = some d') : say (flp b f d') d = say b d := by
  refine sayV_cong (fun _ _ => rfl) (fun g _ => ?_)
  show ((fe b g d).map (tw (flp b f d') g) == some true) = ((fe b g d).map (tw b g) == some true)
  cases hf : fe b g d with
  | none => rfl
  | some k =>
    show (some (tw (flp b f d') g k) == some true) = (some (tw b g k) == some true)
    have := (fe_lt hf).1
    rw [flp_tw (by omega) g k (by omega), if_neg (fun z => h (by rw [← z.1, hf, z.2]))]
theorem say_flp_this {b : Rc} (hD : cD b ≤ 60) {f d' d : Nat} (hd' : d' < 60) (h : fe b f d = some d') : say (flp b f d') d = sayT b (2 ^ f) d := by
  refine sayV_cong (fun _ _ => rfl) (fun g _ => ?_)
  show ((fe b g d).map (tw (flp b f d') g) == some true) = ((fe b g d).isSome && (((fe b g d).map (tw b g) == some true) ^^ (2 ^ f).testBit g))
  rw [Nat.testBit_two_pow]
  cases hf : fe b g d with
  | none => rfl
  | some k =>
    show (some (tw (flp b f d') g k) == some true) = (true && ((some (tw b g k) == some true) ^^ decide (f = g)))
    have := (fe_lt hf).1
    rw [flp_tw (by omega) g k (by omega)]
    by_cases c : f = g
    · subst c
      rw [h] at hf
      have e := Option.some.inj hf
      rw [if_pos ⟨rfl, e.symm⟩, decide_eq_true rfl, ← e]
      cases tw b f d' <;> rfl
    · rw [if_neg (fun z => c z.1.symm), decide_eq_false c]
      cases tw b g k <;> rfl
theorem ct_one {p q : Nat → Bool} {D : Nat} (h : ∀ k, ¬ k = D → p k = q k) : ∀ {N : Nat}, D < N → ct q N + (if p D = true then 1 else 0) = ct p N + (if q D = true then 1 else 0) := by
  intro N
  induction N with
  | zero => intro hD; exact absurd hD (Nat.not_lt_zero D)
  | succ N ih =>
    intro hD
    rw [ct_succ, ct_succ]
    rcases Nat.lt_or_ge D N with c | c
    · have := ih c
      rw [h N (by omega)]
      omega
    · have e : D = N := by omega
      subst e
      rw [ct_cong (p := p) (q := q) (fun k hk => h k (by omega))]
      omega
/-- does the lie of f on d spoil (w), or mend? -/
def hit (b : Rc) (w : Bool) (f D : Nat) : Bool := (decide (say b D = b1 (wetB b D)) == w) && tip b D f
theorem shift (P : Nat → Bool) (N L : Nat) : ct (fun d => decide (d + L < N) && P (d + L)) N = ct (fun D => decide (L ≤ D) && P D) N := by
  rcases Nat.lt_or_ge N L with c | c
  · rw [ct_none (fun k hk => by rw [decide_eq_false (by omega)]; rfl), ct_none (fun k hk => by rw [decide_eq_false (by omega)]; rfl)]
  · have e1 := ct_split (fun D => decide (L ≤ D) && P D) L (N - L)
    rw [show L + (N - L) = N by omega] at e1
    rw [e1, ct_none (p := fun D => decide (L ≤ D) && P D) (fun k hk => by rw [decide_eq_false (by omega)]; rfl), Nat.zero_add, ct_cut (m := N - L) (fun k hk => by rw [decide_eq_false (by omega)]; rfl) N (by omega)]
    apply ct_cong
    intro k hk
    rw [decide_eq_true (by omega), decide_eq_true (by omega), Nat.add_comm]
theorem shiftZ (P : Nat → Bool) (N : Nat) (l : Int) : ct (fun d => decide (0 ≤ (d : Int) + l ∧ (d : Int) + l < N) && P ((d : Int) + l).toNat) N = ct (fun D => decide (0 ≤ (D : Int) - l ∧ (D : Int) - l < N) && P D) N := by
  rcases Int.le_total 0 l with c | c
  · have e := shift P N l.toNat
    rw [ct_cong (p := fun d => decide (0 ≤ (d : Int) + l ∧ (d : Int) + l < N) && P ((d : Int) + l).toNat) (q := fun d => decide (d + l.toNat < N) && P (d + l.toNat)) (fun k hk => by
      rw [show ((k : Int) + l).toNat = k + l.toNat by omega, show decide (0 ≤ (k : Int) + l ∧ (k : Int) + l < N) = decide (k + l.toNat < N) from decide_eq_decide.mpr (by omega)]), e]
    apply ct_cong
    intro k hk
    rw [show decide (0 ≤ (k : Int) - l ∧ (k : Int) - l < N) = decide (l.toNat ≤ k) from decide_eq_decide.mpr (by omega)]
  · have e := shift (fun D => P (D - (-l).toNat)) N (-l).toNat
    rw [ct_cong (p := fun d => decide (0 ≤ (d : Int) + l ∧ (d : Int) + l < N) && P ((d : Int) + l).toNat) (q := fun D => decide ((-l).toNat ≤ D) && P (D - (-l).toNat)) (fun k hk => by
      rw [show ((k : Int) + l).toNat = k - (-l).toNat by omega, show decide (0 ≤ (k : Int) + l ∧ (k : Int) + l < N) = decide ((-l).toNat ≤ k) from decide_eq_decide.mpr (by omega)]), ← e]
    apply ct_cong
    intro k hk
    rw [show k + (-l).toNat - (-l).toNat = k by omega, show decide (0 ≤ (k : Int) - l ∧ (k : Int) - l < N) = decide (k + (-l).toNat < N) from decide_eq_decide.mpr (by omega)]
/-- the reference's test of one lie -/
def lieP (b : Rc) (w : Bool) (f d : Nat) : Bool := if w = true then decide (keptS (flp b f d) < keptS b) else decide (keptS b < keptS (flp b f d))
theorem tip_say {b : Rc} {D f : Nat} (h : te b D f = true) (hf : f < cF b) : (say b D = 0 ∨ say b D = 1) ∧ (sayT b (2 ^ f) D = 0 ∨ sayT b (2 ^ f) D = 1) := by
  have hc : ¬ ct (te b D) (cF b) = 0 := fun z => by
    have := an_true (p := te b D) h hf
    rw [an_ct, z] at this
    exact absurd this (by decide)
  unfold say sayT sayV
  rw [if_neg hc, if_neg hc]
  refine ⟨?_, ?_⟩
  · generalize (if gi b 12 = 0 then _ else _ : Bool) = q
    cases q
    · exact Or.inl rfl
    · exact Or.inr rfl
  · generalize (if gi b 12 = 0 then _ else _ : Bool) = q
    cases q
    · exact Or.inl rfl
    · exact Or.inr rfl
theorem lie_hit {b : Rc} (hB : BI b) (w : Bool) {f d : Nat} (hf : f < cF b) (hd : d < cD b) : lieP b w f d = (decide (0 ≤ (d : Int) + lagZ b f ∧ (d : Int) + lagZ b f < cD b) && hit b w f ((d : Int) + lagZ b f).toNat) := by
  have hD : cD b ≤ 60 := hB.2.1.2
  have key : (∀ D, D < cD b → ¬ fe b f D = some d) → lieP b w f d = false := by
    intro h
    have e : keptS (flp b f d) = keptS b := ct_cong (fun k hk => by
      show decide (say (flp b f d) k = b1 (wetB b k)) = _
      rw [say_flp_other hD (by omega) (h k hk)])
    unfold lieP
    rw [e]
    cases w <;> simp
  by_cases c : 0 ≤ (d : Int) + lagZ b f ∧ (d : Int) + lagZ b f < cD b
  · rw [decide_eq_true c, Bool.true_and]
    generalize hDD : ((d : Int) + lagZ b f).toNat = D
    have hDN : D < cD b := by omega
    by_cases c2 : (d : Int) < curZ b f
    · have hfe : fe b f D = some d := by
        unfold fe
        rw [if_pos (by omega)]
        congr 1
        omega
      have hte : te b D f = true := by unfold te; rw [hfe]; rfl
      have uniq : ∀ k, ¬ k = D → ¬ fe b f k = some d := fun k hk z => by
        have := (fe_lt z).2.1
        omega
      have e := ct_one (p := fun k => decide (say b k = b1 (wetB b k))) (q := fun k => decide (say (flp b f d) k = b1 (wetB b k))) (D := D) (fun k hk => by
        rw [say_flp_other hD (by omega) (uniq k hk)]) hDN
      rw [say_flp_this hD (by omega) hfe] at e
      have e1 : ct (fun k => decide (say (flp b f d) k = b1 (wetB b k))) (cD b) = keptS (flp b f d) := rfl
      have e2 : ct (fun k => decide (say b k = b1 (wetB b k))) (cD b) = keptS b := rfl
      rw [e1, e2] at e
      obtain ⟨s1, s2⟩ := tip_say hte hf
      unfold lieP hit tip
      rw [hte, Bool.true_and]
      have hbin : b1 (wetB b D) = 0 ∨ b1 (wetB b D) = 1 := by cases wetB b D <;> decide
      generalize say b D = A at *
      generalize sayT b (2 ^ f) D = B at *
      generalize b1 (wetB b D) = W at *
      generalize keptS (flp b f d) = X at *
      generalize keptS b = Y at *
      rcases s1 with rfl | rfl <;> rcases s2 with rfl | rfl <;> rcases hbin with rfl | rfl <;> cases w <;> simp at e ⊢ <;> omega
    · rw [key (fun D hD2 z => c2 (by have := (fe_lt z).2.2; exact this))]
      unfold hit tip
      have : te b D f = false := by
        unfold te fe
        rw [if_neg (by omega)]; rfl
      rw [this, Bool.false_and, Bool.and_false]
  · rw [decide_eq_false c, Bool.false_and]
    exact key (fun D hD2 z => by have := (fe_lt z).2.1; omega)
theorem lie_row {b : Rc} (hB : BI b) (w : Bool) {f : Nat} (hf : f < cF b) : ct (lieP b w f) (cD b) = ct (fun D => hit b w f D) (cD b) := by
  rw [ct_cong (fun k hk => lie_hit hB w hf hk), shiftZ (fun D => hit b w f D) (cD b) (lagZ b f)]
  apply ct_cong
  intro D hD
  by_cases c : 0 ≤ (D : Int) - lagZ b f ∧ (D : Int) - lagZ b f < cD b
  · rw [decide_eq_true c, Bool.true_and]
  · rw [decide_eq_false c, Bool.false_and]
    unfold hit tip te fe
    rw [if_neg (by omega)]
    simp
def su (g : Nat → Nat) : Nat → Nat
  | 0 => 0
  | n + 1 => su g n + g n
theorem su_succ (g : Nat → Nat) (n : Nat) : su g (n + 1) = su g n + g n := rfl
theorem su_cong {g h : Nat → Nat} : ∀ {n : Nat}, (∀ k, k < n → g k = h k) → su g n = su h n := by
  intro n
  induction n with
  | zero => intro _; rfl
  | succ n ih => intro q; rw [su_succ, su_succ, ih (fun k hk => q k (by omega)), q n (by omega)]
theorem su_add (g h : Nat → Nat) : ∀ n, su (fun k => g k + h k) n = su g n + su h n := by
  intro n
  induction n with
  | zero => rfl
  | succ n ih => rw [su_succ, su_succ, su_succ, ih]; omega
theorem su_ct (p : Nat → Bool) : ∀ n, su (fun k => if p k = true then 1 else 0) n = ct p n := by
  intro n
  induction n with
  | zero => rfl
  | succ n ih => rw [su_succ, ct_succ, ih]
theorem su_swap (Q : Nat → Nat → Bool) (F : Nat) : ∀ N, su (fun f => ct (Q f) N) F = su (fun D => ct (fun f => Q f D) F) N := by
  intro N
  induction N with
  | zero =>
    show su (fun _ => 0) F = 0
    induction F with
    | zero => rfl
    | succ F ih => rw [su_succ, ih]
  | succ N ih =>
    rw [su_succ, ← ih, ← su_ct (fun f => Q f N) F, ← su_add]
    rfl
theorem su_le {g : Nat → Nat} {m : Nat} : ∀ {n : Nat}, (∀ k, k < n → g k ≤ m) → su g n ≤ m * n := by
  intro n
  induction n with
  | zero => intro _; exact Nat.zero_le _
  | succ n ih => intro h; rw [su_succ, Nat.mul_succ]; have := ih (fun k hk => h k (by omega)); have := h n (by omega); omega
theorem lies_in {b M : Rc} {n f : Nat} (hR : RB b M 0 n) (h25 : gi M 25 = -1) (h26 : gi M 26 = 0) (hf : f < cF b) (w : Bool) {p1 : Int32} (hp : p1 = b1 (!w)) (c0 : Nat) (q : Int32 × Int32 × Rc) (hq : q.2.1 = nI f) : loopF (fX11_lies_L39 p1 (nI (keptS b)) q) (nI c0, (0 : Int32), M) = some (nI (c0 + ct (lieP b w f) (cD b)), M) := by
  have hF : cF b ≤ 8 := hR.1.1.2
  have hD : cD b ≤ 60 := hR.1.2.1.2
  have kl : ∀ b : Rc, keptS b ≤ cD b := fun b => ct_le _ _
  refine loopF_run (b := fX11_lies_L39 p1 (nI (keptS b)) q) (fun i => (nI (c0 + ct (lieP b w f) i), nI i, M)) (cD b) (fun i hi => ?_) ?_
  · have rb2 := rb_tw hR hf hi (tb_flip (b := b) (f := f) (d := i) (by omega))
    have t1 := turns_eq hR hf hi
    have t2 := turns_eq rb2 (f := f) (d := i) hf hi
    have ew : tw (sb b 6 (vp_updL (gb b 6) f (gb b 6 f ^^^ ((1 : Int64) <<< ((nI i).toInt64 &&& 63))))) f i = !tw b f i := by
      rw [show sb b 6 (vp_updL (gb b 6) f (gb b 6 f ^^^ ((1 : Int64) <<< ((nI i).toInt64 &&& 63)))) = flp b f i from rfl, flp_tw (by omega) f i (by omega), if_pos ⟨rfl, rfl⟩]
    rw [ew, Bool.not_not, sa_sa, ga_sa0, upd_upd, upd_id _ _ (twg_eq hR hf hi), sa_id] at t2
    have k2 : fX11_keptOf (sa M 0 (upd (ga M 0) (182 + 60 * f + i) (b1 (!tw b f i)))) = some (nI (keptS (flp b f i))) := keptOf_S rb2 h25 h26
    have z1 := kl b
    have z2 : keptS (flp b f i) ≤ cD b := kl (flp b f i)
    unfold fX11_lies_L39 fX11_lies_J85
    dsimp only
    rw [many_eq hR, if_neg (n_ge hi hD), hq, t1]
    dsimp only [Option.bind]
    rw [k2]
    dsimp only
    rw [t2]
    dsimp only
    rw [nI_1, ct_succ]
    unfold lieP
    rw [hp]
    cases w with
    | true =>
      rw [if_pos (show b1 (!true) = 0 from rfl), if_pos rfl, if_neg (show ¬ b1 (!true) = 1 by decide)]
      by_cases c : keptS (flp b f i) < keptS b
      · rw [if_pos (n_lt c (by omega)), decide_eq_true c, if_pos rfl, nI_1]; rfl
      · rw [if_neg (n_nlt (by omega) (by omega)), decide_eq_false c, if_neg (by decide), Int32.add_zero, nI_1]; rfl
    | false =>
      rw [if_neg (show ¬ b1 (!false) = 0 by decide), if_neg (show ¬ (false = true) by decide), if_pos (show b1 (!false) = 1 from rfl)]
      by_cases c : keptS b < keptS (flp b f i)
      · rw [if_neg (nI_ge c (by omega)), decide_eq_true c, if_pos rfl, nI_1]; rfl
      · rw [if_pos (nI_le (by omega) (by omega)), decide_eq_false c, if_neg (by decide), Int32.add_zero, nI_1]; rfl
  · unfold fX11_lies_L39
    dsimp only
    rw [many_eq hR, if_pos (ple (by omega))]
theorem lies_both {b M : Rc} {n : Nat} (hR : RB b M 0 n) (h25 : gi M 25 = -1) (h26 : gi M 26 = 0) (w : Bool) {p1 : Int32} (hp : p1 = b1 (!w)) : ∃ v, loopF (fX10_lies_L19 p1 b) ((0 : Int32), (0 : Int32)) = some v ∧ loopF (fX11_lies_L25 p1 (nI (keptS b))) ((0 : Int32), (0 : Int32), M) = some (v, M) := by
  have hF : cF b ≤ 8 := hR.1.1.2
  have hD : cD b ≤ 60 := hR.1.2.1.2
  have c1 : loopF (fX10_lies_L19 p1 b) ((0 : Int32), (0 : Int32)) = some (nI (su (fun D => ct (fun f => hit b w f D) (cF b)) (cD b))) := by
    refine loopF_run (b := fX10_lies_L19 p1 b) (fun i => (nI (su (fun D => ct (fun f => hit b w f D) (cF b)) i), nI i)) (cD b) (fun i hi => ?_) ?_
    · have t1 := mk_256 (tip b i) hF
      unfold fX10_lies_L19 fX10_lies_J54 fX10_lies_J67
      dsimp only
      rw [hR.1.2.1.1, if_neg (n_ge hi hD), verdictOf_eq hR.1 (by omega), wetOn_eq (by omega), tippersOf_eq hR.1 (by omega), nI_1, su_succ]
      dsimp only [Option.bind]
      rw [bc32_all _ t1, ct_mk hF]
      unfold lt_ hit
      rw [hp]
      by_cases c : say b i = b1 (wetB b i)
      · rw [if_pos c, decide_eq_true c]
        cases w with
        | true =>
          rw [if_pos (show b1 (!true) = 0 from rfl), if_pos rfl, nI_add]
          rfl
        | false =>
          rw [if_neg (show ¬ b1 (!false) = 0 by decide), if_neg (by decide), ct_none (p := fun f => (true == false) && tip b i f) (fun _ _ => rfl)]
          rfl
      · rw [if_neg c, decide_eq_false c]
        cases w with
        | true =>
          rw [if_pos (show b1 (!true) = 0 from rfl), if_neg (by decide), ct_none (p := fun f => (false == true) && tip b i f) (fun _ _ => rfl)]
          rfl
        | false =>
          rw [if_neg (show ¬ b1 (!false) = 0 by decide), if_pos rfl, nI_add]
          rfl
    · unfold fX10_lies_L19
      dsimp only
      rw [hR.1.2.1.1, if_pos (ple (by omega))]
  have c2 : loopF (fX11_lies_L25 p1 (nI (keptS b))) ((0 : Int32), (0 : Int32), M) = some (nI (su (fun f => ct (lieP b w f) (cD b)) (cF b)), M) := by
    refine loopF_run (b := fX11_lies_L25 p1 (nI (keptS b))) (fun i => (nI (su (fun f => ct (lieP b w f) (cD b)) i), nI i, M)) (cF b) (fun i hi => ?_) ?_
    · unfold fX11_lies_L25
      dsimp only
      rw [frms_eq hR, if_neg (nI_ge hi (by omega)), lies_in hR h25 h26 hi w hp _ _ rfl, nI_1, su_succ]
      rfl
    · unfold fX11_lies_L25
      dsimp only
      rw [frms_eq hR, if_pos (nI_le (Nat.le_refl _) (by omega))]
  refine ⟨_, c1, ?_⟩
  rw [c2, su_cong (fun f hf => lie_row hR.1 w hf), su_swap]
theorem b_lies : BT_lies Rel := by
  intro sg M hR p1
  apply bt_q hR
  obtain ⟨hb, h25, h26⟩ := rel_b hR
  generalize sg 1 = b at *
  generalize sg 0 = kb at *
  have hD : cD b ≤ 60 := hb.1.2.1.2
  have hF : cF b ≤ 8 := hb.1.1.2
  unfold fX10_lies fX11_lies
  rcases what01 p1 with ⟨h, e3⟩ | ⟨h, e3⟩ | ⟨h, h2, e3⟩
  · simp only [e3, i00, i10, if_true]
    rw [keptOf_S hb h25 h26]
    dsimp only [Option.bind]
    rcases h with rfl | rfl
    · obtain ⟨v, l1, l2⟩ := lies_both hb h25 h26 true (p1 := 0) rfl
      rw [l1, l2, if_neg (by decide), if_pos (by decide)]
      exact qq_ans _
    · obtain ⟨v, l1, l2⟩ := lies_both hb h25 h26 false (p1 := 1) rfl
      rw [l1, l2, if_neg (by decide), if_pos (by decide)]
      exact qq_ans _
  · simp only [e3, i00, i10, if_true, if_pos h]
    exact qq_ref 1
  · simp only [e3, i00, i10, if_true, if_neg h, if_neg h2]
    exact qq_ref 1
