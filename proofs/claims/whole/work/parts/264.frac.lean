/-! ===== (B) fractions ===== -/
theorem half_mod {b r : Nat} (h0 : 0 < r) (h : r ≤ b) : 2 * (b % r) < b := by
  have h1 := Nat.mod_lt b h0
  have h2 := Nat.div_add_mod b r
  have h3 : 1 ≤ b / r := Nat.div_pos h h0
  have h4 : r * 1 ≤ r * (b / r) := Nat.mul_le_mul_left r h3
  omega
theorem lN_n0 {b : Nat} (h0 : 0 < b) (hb : b < 2 ^ 63) : ¬ lN b = 0 := fun z => by
  have := (pk_lEQ hb (show 0 < 2 ^ 63 by decide)).mp z
  omega
theorem lN_nz {b : Nat} (h0 : 0 < b) (hb : b < 2 ^ 63) : nz64 (lN b) = true := by
  unfold nz64
  rw [decide_eq_false (lN_n0 h0 hb)]; rfl
theorem cd_step {a b i : Nat} (ha : a < 2 ^ 63) (h0 : 0 < b) (hb : b < 2 ^ 63) (hi : i < 200) : fX10_commonDivisor_L3 (lN a, lN b, nI i) = some (.inl (lN b, lN (a % b), nI (i + 1))) ∧ fX11_tellsBy_L6 (lN a, lN b) = some (.inl (lN b, lN (a % b))) := by
  unfold fX10_commonDivisor_L3 fX11_tellsBy_L6 lt_
  dsimp only
  rw [if_neg (show ¬ (200 : Int32) ≤ nI i from nI_ge hi (by decide)), if_neg (lN_n0 h0 hb), gd_pos (lN_nz h0 hb), pk_lRem ha h0 hb, nI_1, if_neg (lN_n0 h0 hb), gd_pos (lN_nz h0 hb)]
  exact ⟨rfl, rfl⟩
theorem cd_stop {a i : Nat} (hi : i < 200) : fX10_commonDivisor_L3 (lN a, lN 0, nI i) = some (.inr (lN a)) ∧ fX11_tellsBy_L6 (lN a, lN 0) = some (.inr (lN a)) := by
  unfold fX10_commonDivisor_L3 fX11_tellsBy_L6
  dsimp only
  rw [if_neg (show ¬ (200 : Int32) ≤ nI i from nI_ge hi (by decide)), if_pos (show lN 0 = 0 from rfl), if_pos (show lN 0 = 0 from rfl)]
  exact ⟨rfl, rfl⟩
theorem gcd_st (a b : Nat) : Nat.gcd a b = Nat.gcd b (a % b) := by rw [Nat.gcd_comm a b, Nat.gcd_rec b a, Nat.gcd_comm]
theorem gcd_loops : ∀ k a b i : Nat, a < 2 ^ 63 → b < 2 ^ 63 → b < 2 ^ k → i + 2 * k < 200 → loopF fX10_commonDivisor_L3 (lN a, lN b, nI i) = some (lN (Nat.gcd a b)) ∧ loopF fX11_tellsBy_L6 (lN a, lN b) = some (lN (Nat.gcd a b)) := by
  intro k
  induction k with
  | zero =>
    intro a b i ha hb hk hi
    have e : b = 0 := by rw [Nat.pow_zero] at hk; omega
    subst e
    obtain ⟨s1, s2⟩ := cd_stop (a := a) (i := i) (by omega)
    rw [Nat.gcd_zero_right]
    exact ⟨loopF_stop s1, loopF_stop s2⟩
  | succ k ih =>
    intro a b i ha hb hk hi
    rcases Nat.eq_zero_or_pos b with e | h0
    · subst e
      obtain ⟨s1, s2⟩ := cd_stop (a := a) (i := i) (by omega)
      rw [Nat.gcd_zero_right]
      exact ⟨loopF_stop s1, loopF_stop s2⟩
    · obtain ⟨s1, s2⟩ := cd_step ha h0 hb (i := i) (by omega)
      have hr := Nat.mod_lt a h0
      rw [gcd_st]
      rcases Nat.eq_zero_or_pos (a % b) with e | h1
      · obtain ⟨t1, t2⟩ := cd_stop (a := b) (i := i + 1) (by omega)
        rw [e] at s1 s2 ⊢
        rw [Nat.gcd_zero_right]
        exact ⟨loopF_step s1 (loopF_stop t1), loopF_step s2 (loopF_stop t2)⟩
      · obtain ⟨t1, t2⟩ := cd_step hb h1 (Nat.lt_trans hr hb) (i := i + 1) (by omega)
        have hh := half_mod h1 (Nat.le_of_lt hr)
        have hp : 2 ^ (k + 1) = 2 * 2 ^ k := by rw [Nat.pow_succ]; omega
        rw [gcd_st]
        obtain ⟨u1, u2⟩ := ih (a % b) (b % (a % b)) (i + 1 + 1) (Nat.lt_trans hr hb) (by omega) (by omega) (by omega)
        exact ⟨loopF_step s1 (loopF_step t1 u1), loopF_step s2 (loopF_step t2 u2)⟩
theorem frac_eq (kb M : Rc) {n d : Nat} (hn : n < 2 ^ 63) (h0 : 0 < d) (hd : d < 2 ^ 63) : fX10_tellFraction (lN n) (lN d) kb = some (sl (sl kb 17 (lN (n / Nat.gcd n d))) 18 (lN (d / Nat.gcd n d))) ∧ fX11_tellsBy (lN n) (lN d) M = some ((1 : Int32), si (sl (sl M 3 (lN (n / Nat.gcd n d))) 4 (lN (d / Nat.gcd n d))) 2 0) := by
  obtain ⟨l1, l2⟩ := gcd_loops 63 n d 0 hn hd hd (by decide)
  have g0 : 0 < Nat.gcd n d := Nat.gcd_pos_of_pos_right n h0
  have g1 : Nat.gcd n d < 2 ^ 63 := Nat.lt_of_le_of_lt (Nat.gcd_le_right n h0) hd
  unfold fX10_tellFraction fX10_commonDivisor fX11_tellsBy lt_
  rw [show (lN n, lN d, (0 : Int32)) = (lN n, lN d, nI 0) from rfl, l1, l2]
  dsimp only [Option.bind]
  rw [if_neg (show ¬ lN (Nat.gcd n d) ≤ 0 from fun z => by have := (pk_lLE g1 (show 0 < 2 ^ 63 by decide)).mp z; omega), gd_pos (lN_nz g0 g1), gd_pos (lN_nz g0 g1), pk_lDiv hn g0 g1, pk_lDiv hd g0 g1]
  exact ⟨rfl, rfl⟩
theorem rel_fr {sg : Nat → Rc} {M : Rc} (h : Rel sg M) (t u : Int64) (st : Int32) : Rel (va_up sg 0 (si (sl (sl (sg 0) 17 t) 18 u) 16 st)) (si (sl (sl M 3 t) 4 u) 2 st) := by
  obtain ⟨⟨s1, s2, s3, s4, s5, s6⟩, h2, h3, h4, h5, h6, h7, h8, h9, h10⟩ := h
  exact ⟨⟨rfl, rfl, rfl, s4, s5, s6⟩, h2, h3, h4, h5, h6, h7, h8, h9, h10⟩
/-- the same to the relation -/
def Fz (M M' : Rc) : Prop := Fx M M' ∧ ga M' 0 = ga M 0 ∧ gi M' 2 = gi M 2
theorem fz_refl (M : Rc) : Fz M M := ⟨fx_refl M, rfl, rfl⟩
theorem rel_m {sg : Nat → Rc} {M M' : Rc} (h : Rel sg M) (hz : Fz M M') : Rel sg M' := by
  obtain ⟨hx, h0, h2⟩ := hz
  have hb : RB (sg 1) M' 0 0 := RB_frame (fun k hk => by rw [h0]) (fun k hk => by rw [hx.2.2.2.2.2.2.2.2.2.2.2.2.2.2.2.2]) h.2.1
  have r := rel_bench h hb rfl (fun k _ => by rw [h0]) hx (gi M 2)
  rw [si_id (sg 0) 16 h.1.1, si_id M' 2 h2] at r
  rw [va_up_id sg 0 rfl, va_up_id sg 1 rfl] at r
  exact r
def QF (c m : Option (Int32 × Rc)) (kb M : Rc) : Prop := (∃ (v st : Int32) (M' : Rc), c = some (v, si kb 16 st) ∧ m = some (v, si M' 2 st) ∧ Fz M M') ∨ (∃ (t u : Int64) (M' : Rc), c = some ((1 : Int32), si (sl (sl kb 17 t) 18 u) 16 0) ∧ m = some ((1 : Int32), si (sl (sl M' 3 t) 4 u) 2 0) ∧ Fz M M')
theorem bt_f {sg : Nat → Rc} {M : Rc} {c m : Option (Int32 × Rc)} (hR : Rel sg M) (h : QF c m (sg 0) M) : ∃ (r1 : Int32 × Rc) (r2 : Int32 × Rc), c = some r1 ∧ m = some r2 ∧ r1.1 = r2.1 ∧ Rel (va_up sg 0 r1.2) r2.2 := by
  rcases h with ⟨v, st, M', e1, e2, hz⟩ | ⟨t, u, M', e1, e2, hz⟩
  · exact ⟨_, _, e1, e2, rfl, rel_st (rel_m hR hz) st⟩
  · exact ⟨_, _, e1, e2, rfl, rel_fr (rel_m hR hz) t u 0⟩
theorem qf_no (kb M : Rc) {v : Int32} (hv : ¬ v = 0) : QF (some (fX10_deny v kb)) (some (fX11_is v M)) kb M := Or.inl ⟨0, v, M, rfl, by rw [mis_ne hv], fz_refl M⟩
theorem b_trust : BT_trust Rel := by
  intro sg M hR p1
  apply bt_f hR
  obtain ⟨hb, h25, h26⟩ := rel_b hR
  generalize sg 1 = b at *
  generalize sg 0 = kb at *
  have hD : cD b ≤ 60 := hb.1.2.1.2
  have hF : cF b ≤ 8 := hb.1.1.2
  unfold fX10_trust fX11_trust
  rcases farmer_cases hb kb p1 with ⟨f, hf, rfl, e1, e2⟩ | ⟨e1, e2⟩
  · simp only [e1, e2, i00, i10, if_true]
    obtain ⟨x, x1, x2⟩ := told_bc hb.1 hf
    obtain ⟨y, y1, y2⟩ := right_bc hb.1 hf
    have ca := ct_le (te b · f) (cD b)
    have cb := ct_le (fun d => wd b f d == some (fwB b f d)) (cD b)
    rw [x1, y1, toldOf_eq hb h25 h26 hf, rightOf_eq hb h25 h26 hf]
    unfold lt_
    dsimp only [Option.bind]
    rw [x2, y2]
    by_cases c : ct (te b · f) (cD b) = 0
    · rw [c, if_pos (show nI 0 = 0 from rfl), if_pos (show nI 0 = 0 from rfl)]
      exact qf_no kb M (by decide)
    · rw [if_neg (nI_ne0 (by omega) (by omega)), if_neg (nI_ne0 (by omega) (by omega)), nI_l (by omega), nI_l (by omega)]
      obtain ⟨z1, z2⟩ := frac_eq kb M (n := ct (fun d => wd b f d == some (fwB b f d)) (cD b)) (d := ct (te b · f) (cD b)) (by omega) (by omega) (by omega)
      rw [z1, z2]
      exact Or.inr ⟨_, _, M, rfl, rfl, fz_refl M⟩
  · simp only [e1, e2, i00, i10, if_true]
    exact qf_no kb M (by decide)
theorem b_truest : BT_truest Rel := by
  intro sg M hR
  apply bt_q hR
  obtain ⟨hb, h25, h26⟩ := rel_b hR
  generalize sg 1 = b at *
  generalize sg 0 = kb at *
  have hD : cD b ≤ 60 := hb.1.2.1.2
  have hF : cF b ≤ 8 := hb.1.1.2
  unfold fX10_truest fX11_truest
  unfold fX0_mostTrusted
  obtain ⟨r, k, l1, l2, hr⟩ := loop_rel (b := fX0_mostTrusted_L9 b) (c := fX11_truest_L4 M) (fun i s t => s.2.2.2 = nI i ∧ t.2 = nI i ∧ s.1 = t.1 ∧ (s.1 = -1 ∨ ∃ g, g < cF b ∧ s.1 = nI g ∧ s.2.1 = nI (ct (fun d => wd b g d == some (fwB b g d)) (cD b)) ∧ s.2.2.1 = nI (ct (te b · g) (cD b)))) (fun r k => r = k) (cF b) (fun i s t hi h => by
      obtain ⟨w, br, bt, j⟩ := s
      obtain ⟨be, j2⟩ := t
      obtain ⟨h1, h2, h4, h3⟩ := h
      dsimp only at h1 h2 h3 h4
      subst h1 h2 h4
      left
      obtain ⟨x, x1, x2⟩ := told_bc hb.1 hi
      obtain ⟨y, y1, y2⟩ := right_bc hb.1 hi
      unfold fX0_mostTrusted_L9 fX11_truest_L4 lt_
      dsimp only
      rw [hb.1.1.1, frms_eq hb, if_neg (nI_ge hi (by omega)), if_neg (nI_ge hi (by omega)), nI_1, x1, y1, toldOf_eq hb h25 h26 hi, rightOf_eq hb h25 h26 hi]
      dsimp only [Option.bind]
      rw [x2, y2]
      by_cases c : nI (ct (te b · i) (cD b)) ≤ 0
      · rw [if_pos c, if_pos c]
        exact ⟨_, _, rfl, rfl, rfl, rfl, rfl, h3⟩
      · rw [if_neg c, if_neg c]
        rcases h3 with rfl | ⟨g, hg, rfl, rfl, rfl⟩
        · rw [if_pos rfl, if_pos rfl]
          exact ⟨_, _, rfl, rfl, rfl, rfl, rfl, Or.inr ⟨i, hi, rfl, rfl, rfl⟩⟩
        · rw [if_neg (nI_m1 (by omega)), if_neg (nI_m1 (by omega)), toldOf_eq hb h25 h26 hg, rightOf_eq hb h25 h26 hg]
          dsimp only
          split
          · exact ⟨_, _, rfl, rfl, rfl, rfl, rfl, Or.inr ⟨g, hg, rfl, rfl, rfl⟩⟩
          · exact ⟨_, _, rfl, rfl, rfl, rfl, rfl, Or.inr ⟨i, hi, rfl, rfl, rfl⟩⟩) (fun s t h => by
      obtain ⟨w, br, bt, j⟩ := s
      obtain ⟨be, j2⟩ := t
      obtain ⟨h1, h2, h4, h3⟩ := h
      dsimp only at h1 h2 h3 h4
      subst h1 h2 h4
      unfold fX0_mostTrusted_L9 fX11_truest_L4
      dsimp only
      rw [hb.1.1.1, frms_eq hb, if_pos (nI_le (Nat.le_refl _) (by omega)), if_pos (nI_le (Nat.le_refl _) (by omega))]
      exact ⟨_, _, rfl, rfl, rfl⟩) (cF b) 0 ((-1 : Int32), (0 : Int32), (1 : Int32), (0 : Int32)) ((-1 : Int32), (0 : Int32)) (by omega) ⟨rfl, rfl, rfl, Or.inl rfl⟩
  subst hr
  rw [l1, l2]
  exact qq_any _
/-! odds -/
def pr (g : Nat → Nat) : Nat → Nat
  | 0 => 1
  | n + 1 => pr g n * g n
theorem pr_succ (g : Nat → Nat) (n : Nat) : pr g (n + 1) = pr g n * g n := rfl
theorem pr_le {g : Nat → Nat} : ∀ {n : Nat}, (∀ k, k < n → g k ≤ 16) → pr g n ≤ 16 ^ n := by
  intro n
  induction n with
  | zero => intro _; exact Nat.le_refl _
  | succ n ih => intro h; rw [pr_succ, Nat.pow_succ]; exact Nat.mul_le_mul (ih (fun k hk => h k (by omega))) (h n (by omega))
def fl (b : Rc) (f : Nat) : Nat := (ga b 2 f).toInt.toNat
def fs (b : Rc) (f : Nat) : Nat := (ga b 3 f).toInt.toNat
def facR (b : Rc) (d f : Nat) : Nat := match wd b f d with
  | none => 1
  | some w => if elbB b f = true then 1 else if w = true then 16 - fl b f else fl b f
def facD (b : Rc) (d f : Nat) : Nat := match wd b f d with
  | none => 1
  | some w => if elbB b f = true then 1 else if w = true then fs b f else 16 - fs b f
theorem fl_eq {b : Rc} (hB : BI b) {f : Nat} (hf : f < cF b) : ga b 2 f = nI (fl b f) ∧ fl b f ≤ 16 ∧ ga b 3 f = nI (fs b f) ∧ fs b f ≤ 16 := by
  obtain ⟨-, -, ⟨a1, a2⟩, ⟨a3, a4⟩, -⟩ := hB.2.2.1 f hf
  unfold fl fs
  exact ⟨i_nat a1, by omega, i_nat a3, by omega⟩
theorem fac_le {b : Rc} (hB : BI b) {d f : Nat} (hf : f < cF b) : facR b d f ≤ 16 ∧ facD b d f ≤ 16 := by
  obtain ⟨-, h1, -, h2⟩ := fl_eq hB hf
  unfold facR facD
  cases wd b f d with
  | none => exact ⟨(by decide : (1 : Nat) ≤ 16), (by decide : (1 : Nat) ≤ 16)⟩
  | some w =>
    dsimp only
    constructor
    · split
      · omega
      · split <;> omega
    · split
      · omega
      · split <;> omega
theorem pr_bnd {b : Rc} (hB : BI b) (d : Nat) {i : Nat} (hi : i ≤ cF b) : pr (facR b d) i ≤ 4294967296 ∧ pr (facD b d) i ≤ 4294967296 := by
  have hF : cF b ≤ 8 := hB.1.2
  have h : 16 ^ i ≤ 16 ^ 8 := Nat.pow_le_pow_right (by decide) (by omega)
  exact ⟨Nat.le_trans (pr_le (fun k hk => (fac_le hB (d := d) (f := k) (by omega)).1)) h, Nat.le_trans (pr_le (fun k hk => (fac_le hB (d := d) (f := k) (by omega)).2)) h⟩
theorem nI_sub16 {a : Nat} (h : a ≤ 16) : (16 : Int32) - nI a = nI (16 - a) := by
  apply i_ext
  have h1 : (16 : Int32).toInt = 16 := rfl
  have h2 : (nI a).toInt = (a : Int) := nI_toInt (by omega)
  rw [i_sub (by omega) (by omega), h1, h2, nI_toInt (by omega)]
  omega
theorem wd_isSome (b : Rc) (f d : Nat) : (fe b f d).isSome = (wd b f d).isSome := by unfold wd; cases fe b f d <;> rfl
theorem lk_1 {b : Rc} (hB : BI b) {d : Nat} (hd : d ≤ 62) : fX0_likelihood (nI d) 1 b = some (lN (pr (facR b d) (cF b))) := by
  have hF : cF b ≤ 8 := hB.1.2
  unfold fX0_likelihood
  have l1 : loopF (fX0_likelihood_L5 (nI d) 1 b) ((1 : Int64), (0 : Int32)) = some (lN (pr (facR b d) (cF b))) := by
    refine loopF_run (fun i => (lN (pr (facR b d) i), nI i)) (cF b) (fun i hi => ?_) ?_
    · obtain ⟨g1, g2, g3, g4⟩ := fl_eq hB hi
      unfold fX0_likelihood_L5 fX0_likelihood_J57 lt_
      dsimp only
      rw [hB.1.1, if_neg (nI_ge hi (by omega)), hasWord_eq hB hi hd, wd_isSome, elb_eq hB (by omega), believes_eq hB hi hd, nI_1, pr_succ, if_neg (show ¬ (1 : Int32) = 0 by decide), gd_pos (inbn (by omega) (by decide)), nI_clamp (by omega), g1, nI_sub16 g2, nI_sub16 (by omega), nI_l (by omega), nI_l (by omega), lN_mul, lN_mul]
      unfold facR
      cases wd b i d with
      | none => dsimp only; rw [Nat.mul_one]; rfl
      | some w =>
        cases elbB b i with
        | true => dsimp only; rw [if_pos rfl, Nat.mul_one]; cases w <;> rfl
        | false => cases w with
          | true => rfl
          | false => rw [show 16 - (16 - fl b i) = fl b i by omega]; rfl
    · unfold fX0_likelihood_L5
      dsimp only
      rw [hB.1.1, if_pos (nI_le (Nat.le_refl _) (by omega))]
  rw [l1]; rfl
theorem lk_0 {b : Rc} (hB : BI b) {d : Nat} (hd : d ≤ 62) : fX0_likelihood (nI d) 0 b = some (lN (pr (facD b d) (cF b))) := by
  have hF : cF b ≤ 8 := hB.1.2
  unfold fX0_likelihood
  have l1 : loopF (fX0_likelihood_L5 (nI d) 0 b) ((1 : Int64), (0 : Int32)) = some (lN (pr (facD b d) (cF b))) := by
    refine loopF_run (fun i => (lN (pr (facD b d) i), nI i)) (cF b) (fun i hi => ?_) ?_
    · obtain ⟨g1, g2, g3, g4⟩ := fl_eq hB hi
      unfold fX0_likelihood_L5 fX0_likelihood_J57 lt_
      dsimp only
      rw [hB.1.1, if_neg (nI_ge hi (by omega)), hasWord_eq hB hi hd, wd_isSome, elb_eq hB (by omega), believes_eq hB hi hd, nI_1, pr_succ, if_pos (show (0 : Int32) = 0 from rfl), gd_pos (inbn (by omega) (by decide)), nI_clamp (by omega), g3, nI_sub16 g4, nI_l (by omega), nI_l (by omega), lN_mul, lN_mul]
      unfold facD
      cases wd b i d with
      | none => dsimp only; rw [Nat.mul_one]; rfl
      | some w =>
        cases elbB b i with
        | true => dsimp only; rw [if_pos rfl, Nat.mul_one]; cases w <;> rfl
        | false => cases w <;> rfl
    · unfold fX0_likelihood_L5
      dsimp only
      rw [hB.1.1, if_pos (nI_le (Nat.le_refl _) (by omega))]
  rw [l1]; rfl
theorem sl4 (M : Rc) (a c e g : Int64) : sl (sl (sl (sl M 27 a) 28 c) 27 e) 28 g = sl (sl M 27 e) 28 g := by
  unfold sl
  refine Prod.ext rfl (Prod.ext ?_ rfl)
  funext j
  dsimp only
  unfold va_up
  by_cases h1 : j = 28 <;> by_cases h2 : j = 27 <;> simp [h1, h2]
def wM (b M : Rc) (d p i : Nat) : Rc := sl (sl M 27 (lN (p * pr (facR b d) i))) 28 (lN ((16 - p) * pr (facD b d) i))
theorem weighs_eq {b M : Rc} {n : Nat} (hb : RB b M 0 n) (h25 : gi M 25 = -1) (h26 : gi M 26 = 0) {d p : Nat} (hd : d ≤ 62) (hp : p ≤ 16) : fX11_weighs (nI d) (nI p) M = some (wM b M d p (cF b)) := by
  have hF : cF b ≤ 8 := hb.1.1.2
  unfold fX11_weighs lt_
  dsimp only
  have l1 : loopF (fX11_weighs_L17 (nI d)) ((0 : Int32), sl (sl M 27 (nI p).toInt64) 28 (((16 : Int32) - nI p).toInt64)) = some (wM b M d p (cF b)) := by
    have e0 : sl (sl M 27 (nI p).toInt64) 28 (((16 : Int32) - nI p).toInt64) = wM b M d p 0 := by
      unfold wM
      rw [nI_sub16 hp, nI_l (by omega), nI_l (by omega)]
      show _ = sl (sl M 27 (lN (p * 1))) 28 (lN ((16 - p) * 1))
      rw [Nat.mul_one, Nat.mul_one]
    rw [e0]
    refine loopF_run (b := fX11_weighs_L17 (nI d)) (fun i => (nI i, wM b M d p i)) (cF b) (fun i hi => ?_) ?_
    · have hb' : RB b (wM b M d p i) 0 n := hb
      obtain ⟨g1, g2, g3, g4⟩ := fl_eq hb.1 hi
      obtain ⟨-, m1, m2, m3, -, -⟩ := fr_eq hb' hi
      unfold fX11_weighs_L17 fX11_weighs_J101 lt_
      dsimp only
      rw [frms_eq hb', if_neg (nI_ge hi (by omega)), tell_eq hb' h25 h26 hi hd, nI_1, fRow, show nI (10 + 6 * i) + (3 : Int32) = nI (10 + 6 * i + 3) from nI_add _ 3, show nI (10 + 6 * i) + (1 : Int32) = nI (10 + 6 * i + 1) from nI_add _ 1, show nI (10 + 6 * i) + (2 : Int32) = nI (10 + 6 * i + 2) from nI_add _ 2]
      simp only [gd_pos (inbn (k := 10 + 6 * i + 3) (n := 6240) (by omega) (by decide)), gd_pos (inbn (k := 10 + 6 * i + 1) (n := 6240) (by omega) (by decide)), nI_clamp (show 10 + 6 * i + 1 < 2 ^ 31 by omega), nI_clamp (show 10 + 6 * i + 2 < 2 ^ 31 by omega), nI_clamp (show 10 + 6 * i + 3 < 2 ^ 31 by omega), m1, m3]
      have m2' : ∀ x, ga (sl (wM b M d p i) 27 x) 0 (10 + 6 * i + 2) = nI (fs b i) := fun x => m2.trans g3
      have el : gl (wM b M d p i) 27 = lN (p * pr (facR b d) i) := rfl
      have er : ∀ x, gl (sl (wM b M d p i) 27 x) 28 = lN ((16 - p) * pr (facD b d) i) := fun x => rfl
      simp only [m2', er, el]
      rw [g1, nI_sub16 g2, nI_sub16 g4, nI_l (by omega), nI_l (by omega), nI_l (by omega), nI_l (by omega), lN_mul, lN_mul, lN_mul, lN_mul]
      simp only [gd_pos (inbn (k := 10 + 6 * i + 2) (n := 6240) (by omega) (by decide))]
      have fin : ∀ x y, x = facR b d i → y = facD b d i → sl (sl (wM b M d p i) 27 (lN (p * pr (facR b d) i * x))) 28 (lN ((16 - p) * pr (facD b d) i * y)) = wM b M d p (i + 1) := by
        intro x y hx hy
        unfold wM
        rw [sl4, hx, hy, pr_succ, pr_succ, Nat.mul_assoc, Nat.mul_assoc]
      have fin1 : facR b d i = 1 → facD b d i = 1 → wM b M d p i = wM b M d p (i + 1) := by
        intro h1 h2
        unfold wM
        rw [pr_succ, pr_succ, h1, h2, Nat.mul_one, Nat.mul_one]
      have hwd : ∀ w, wd b i d = w → facR b d i = (match w with | none => 1 | some w => if elbB b i = true then 1 else if w = true then 16 - fl b i else fl b i) ∧ facD b d i = (match w with | none => 1 | some w => if elbB b i = true then 1 else if w = true then fs b i else 16 - fs b i) := fun w h => by subst h; exact ⟨rfl, rfl⟩
      unfold tv
      cases hw : wd b i d with
      | none =>
        obtain ⟨q1, q2⟩ := hwd _ hw
        dsimp only [Option.bind]
        rw [if_pos rfl, ← fin1 q1 q2]
      | some w =>
        obtain ⟨q1, q2⟩ := hwd _ hw
        dsimp only [Option.bind]
        cases he : elbB b i with
        | true =>
          rw [he] at q1 q2
          dsimp only at q1 q2
          rw [if_pos rfl] at q1 q2
          rw [if_neg (by cases w <;> decide), if_pos (show b1 true = 1 from rfl), ← fin1 q1 q2]
        | false =>
          rw [he] at q1 q2
          dsimp only at q1 q2
          rw [if_neg (by decide)] at q1 q2
          rw [if_neg (by cases w <;> decide), if_neg (show ¬ b1 false = 1 by decide)]
          cases w with
          | true =>
            rw [if_pos rfl] at q1 q2
            rw [if_pos (show b1 true = 1 from rfl), if_pos (show b1 true = 1 from rfl), fin _ _ q1.symm q2.symm]
          | false =>
            rw [if_neg (by decide)] at q1 q2
            rw [if_neg (show ¬ b1 false = 1 by decide), if_neg (show ¬ b1 false = 1 by decide), fin _ _ q1.symm q2.symm]
    · have hb' : RB b (wM b M d p (cF b)) 0 n := hb
      unfold fX11_weighs_L17
      dsimp only
      rw [frms_eq hb', if_pos (nI_le (Nat.le_refl _) (by omega))]
  rw [l1]; rfl
theorem fz_wM (b M : Rc) (d p i : Nat) : Fz M (wM b M d p i) := ⟨⟨rfl, rfl, rfl, rfl, rfl, rfl, rfl, rfl, rfl, rfl, rfl, rfl, rfl, rfl, rfl, rfl, rfl⟩, rfl, rfl⟩
theorem shares {b : Rc} (hB : BI b) {d p : Nat} (hd : d ≤ 62) (hp : p ≤ 16) : fX0_rainShare (nI d) (nI p) b = some (lN (p * pr (facR b d) (cF b))) ∧ fX0_dryShare (nI d) (nI p) b = some (lN ((16 - p) * pr (facD b d) (cF b))) := by
  unfold fX0_rainShare fX0_dryShare
  rw [lk_1 hB hd, lk_0 hB hd]
  dsimp only [Option.bind]
  rw [nI_sub16 hp, nI_l (by omega), nI_l (by omega), lN_mul, lN_mul]
  exact ⟨rfl, rfl⟩
theorem p_nat {x : Int32} (h1 : (1 : Int32).toInt ≤ x.toInt) (h2 : x.toInt ≤ (15 : Int32).toInt) : ∃ p, 1 ≤ p ∧ p ≤ 15 ∧ x = nI p := by
  rw [show (1 : Int32).toInt = 1 from rfl] at h1
  rw [show (15 : Int32).toInt = 15 from rfl] at h2
  exact ⟨x.toInt.toNat, by omega, by omega, i_nat (by omega)⟩
theorem b_odds : BT_odds Rel := by
  intro sg M hR p1 p2
  apply bt_f hR
  obtain ⟨hb, h25, h26⟩ := rel_b hR
  generalize sg 1 = b at *
  generalize sg 0 = kb at *
  have hD : cD b ≤ 60 := hb.1.2.1.2
  have hF : cF b ≤ 8 := hb.1.1.2
  unfold fX10_odds fX11_odds
  rcases asked_cases p1 with ⟨d, hd, rfl, e1, e2⟩ | ⟨e1, e2⟩
  · simp only [e1, e2, i00, i10, if_true]
    rcases rng_cases p2 1 15 (lo' := 1) (hi' := 15) rfl rfl with ⟨r1, r2, e3, e4⟩ | ⟨-, e3, e4⟩
    · simp only [e3, e4, i00, i10, if_true]
      obtain ⟨p, hp1, hp2, rfl⟩ := p_nat r1 r2
      obtain ⟨s1, s2⟩ := shares hb.1 hd (p := p) (by omega)
      rw [s1, s2, weighs_eq hb h25 h26 hd (by omega)]
      obtain ⟨c1, c2⟩ := pr_bnd hb.1 d (Nat.le_refl (cF b))
      have b1 : p * pr (facR b d) (cF b) ≤ 15 * 4294967296 := Nat.mul_le_mul hp2 c1
      have b2 : (16 - p) * pr (facD b d) (cF b) ≤ 15 * 4294967296 := Nat.mul_le_mul (by omega) c2
      have el : gl (wM b M d p (cF b)) 27 = lN (p * pr (facR b d) (cF b)) := rfl
      have er : gl (wM b M d p (cF b)) 28 = lN ((16 - p) * pr (facD b d) (cF b)) := rfl
      unfold lt_
      dsimp only [Option.bind]
      rw [el, er, lN_add]
      have hz := fz_wM b M d p (cF b)
      generalize wM b M d p (cF b) = M' at *
      generalize p * pr (facR b d) (cF b) = A at *
      generalize (16 - p) * pr (facD b d) (cF b) = B at *
      by_cases c : A + B = 0
      · rw [c, if_pos (show lN 0 = 0 from rfl), if_pos (show lN 0 = 0 from rfl)]
        exact Or.inl ⟨0, 7, M', rfl, by rw [mis_ne (by decide)], hz⟩
      · rw [if_neg (lN_n0 (by omega) (by omega)), if_neg (lN_n0 (by omega) (by omega))]
        obtain ⟨z1, z2⟩ := frac_eq kb M' (n := A) (d := A + B) (by omega) (by omega) (by omega)
        rw [z1, z2]
        exact Or.inr ⟨_, _, M', rfl, rfl, hz⟩
    · simp only [e3, e4, i00, i10, if_true]
      exact qf_no kb M (by decide)
  · simp only [e1, e2, i00, i10, if_true]
    exact qf_no kb M (by decide)
theorem fz_trans {A B C : Rc} (h : Fz A B) (k : Fz B C) : Fz A C := ⟨fx_trans h.1 k.1, k.2.1.trans h.2.1, k.2.2.trans h.2.2⟩
theorem lN_m1 {n : Nat} (h : n < 2 ^ 63) : ¬ lN n = -1 := fun z => by
  have := congrArg Int64.toInt z
  rw [pk_lT h, show (-1 : Int64).toInt = -1 from rfl] at this
  omega
theorem b_hay : BT_hay Rel := by
  intro sg M hR p1 p2 p3
  apply bt_f hR
  obtain ⟨hb, h25, h26⟩ := rel_b hR
  generalize sg 1 = b at *
  generalize sg 0 = kb at *
  have hD : cD b ≤ 60 := hb.1.2.1.2
  have hF : cF b ≤ 8 := hb.1.1.2
  unfold fX10_hay fX11_hay
  rcases asked_cases p1 with ⟨d, hd, rfl, e1, e2⟩ | ⟨e1, e2⟩
  · simp only [e1, e2, i00, i10, if_true]
    rcases rng_cases p2 1 3 (lo' := 1) (hi' := 3) rfl rfl with ⟨r1, r2, e3, e4⟩ | ⟨-, e3, e4⟩
    · simp only [e3, e4, i00, i10, if_true]
      by_cases c0 : (62 : Int32) < (nI d + p2) - 1
      · rw [if_pos c0, if_pos c0]
        exact qf_no kb M (by decide)
      · rw [if_neg c0, if_neg c0]
        rcases rng_cases p3 1 15 (lo' := 1) (hi' := 15) rfl rfl with ⟨r3, r4, e5, e6⟩ | ⟨-, e5, e6⟩
        · simp only [e5, e6, i00, i10, if_true]
          obtain ⟨p, hp1, hp2, rfl⟩ := p_nat r3 r4
          rw [show (1 : Int32).toInt = 1 from rfl] at r1
          rw [show (3 : Int32).toInt = 3 from rfl] at r2
          obtain ⟨K, hK1, hK2, rfl⟩ : ∃ K : Nat, 1 ≤ K ∧ K ≤ 3 ∧ p2 = nI K := ⟨p2.toInt.toNat, by omega, by omega, i_nat (by omega)⟩
          have hdk : d + K ≤ 63 := by
            rw [i_lt, i_sub (by rw [i_add (by rw [nI_toInt (by omega), nI_toInt (by omega)]; omega) (by rw [nI_toInt (by omega), nI_toInt (by omega)]; omega), nI_toInt (by omega), nI_toInt (by omega)]; show -2147483648 ≤ _ - (1 : Int); omega) (by rw [i_add (by rw [nI_toInt (by omega), nI_toInt (by omega)]; omega) (by rw [nI_toInt (by omega), nI_toInt (by omega)]; omega), nI_toInt (by omega), nI_toInt (by omega)]; show _ - (1 : Int) < 2147483648; omega), i_add (by rw [nI_toInt (by omega), nI_toInt (by omega)]; omega) (by rw [nI_toInt (by omega), nI_toInt (by omega)]; omega), nI_toInt (by omega), nI_toInt (by omega)] at c0
            have c0' : ¬ (62 : Int) < ((d : Int) + (K : Int)) - 1 := c0
            omega
          obtain ⟨r, k, l1, l2, hr⟩ := loop_rel (b := fX10_hay_L51 (nI d) (nI K) (nI p) kb b) (c := fX11_hay_L56 (nI d) (nI K) (nI p)) (fun i s t => ∃ A M', i ≤ K ∧ s = (lN A, lN (1000000 ^ i), nI i) ∧ t = (lN A, lN (1000000 ^ i), nI i, M') ∧ A ≤ 1000000 ^ i ∧ Fz M M') (fun r k => (r = .inl () ∧ ∃ M', k = .inl M' ∧ Fz M M') ∨ (∃ A M', r = .inr (lN A, lN (1000000 ^ K)) ∧ k = .inr (lN A, lN (1000000 ^ K), M') ∧ A ≤ 1000000 ^ K ∧ Fz M M')) K (fun i s t hi h => by
              obtain ⟨A, M', hiK, rfl, rfl, hA, hz⟩ := h
              have hb' : RB b M' 0 0 := RB_frame (fun k hk => by rw [hz.2.1]) (fun k hk => by rw [hz.1.2.2.2.2.2.2.2.2.2.2.2.2.2.2.2.2]) hb
              have h25' : gi M' 25 = -1 := hz.1.2.2.2.1.trans h25
              have h26' : gi M' 26 = 0 := hz.1.2.2.2.2.1.trans h26
              obtain ⟨s1, s2⟩ := shares hb.1 (d := d + i) (p := p) (by omega) (by omega)
              obtain ⟨c1, c2⟩ := pr_bnd hb.1 (d + i) (Nat.le_refl (cF b))
              have b1 : p * pr (facR b (d + i)) (cF b) ≤ 15 * 4294967296 := Nat.mul_le_mul hp2 c1
              have b2 : (16 - p) * pr (facD b (d + i)) (cF b) ≤ 15 * 4294967296 := Nat.mul_le_mul (by omega) c2
              have el : gl (wM b M' (d + i) p (cF b)) 27 = lN (p * pr (facR b (d + i)) (cF b)) := rfl
              have er : gl (wM b M' (d + i) p (cF b)) 28 = lN ((16 - p) * pr (facD b (d + i)) (cF b)) := rfl
              have hz2 := fz_trans hz (fz_wM b M' (d + i) p (cF b))
              unfold fX10_hay_L51 fX11_hay_L56 fX10_dryMillionths lt_
              dsimp only
              rw [if_neg (nI_ge hi (by omega)), if_neg (nI_ge hi (by omega)), nI_add, s1, s2, weighs_eq hb' h25' h26' (by omega) (by omega), nI_1]
              dsimp only [Option.bind]
              rw [el, er, lN_add, lN_add]
              generalize wM b M' (d + i) p (cF b) = M2 at *
              generalize p * pr (facR b (d + i)) (cF b) = X at *
              generalize (16 - p) * pr (facD b (d + i)) (cF b) = Y at *
              rw [Nat.add_comm X Y]
              by_cases c : Y + X = 0
              · right
                rw [c, if_pos (show lN 0 = 0 from rfl), if_pos (show lN 0 = 0 from rfl)]
                exact ⟨_, _, rfl, rfl, Or.inl ⟨rfl, M2, rfl, hz2⟩⟩
              · left
                rw [if_neg (lN_n0 (by omega) (by omega)), if_neg (lN_n0 (by omega) (by omega)), gd_pos (lN_nz (by omega) (by omega)), gd_pos (lN_nz (by omega) (by omega)), show (1000000 : Int64) = lN 1000000 from rfl, lN_mul, pk_lDiv (by omega) (by omega) (by omega)]
                dsimp only
                have hq : Y * 1000000 / (Y + X) ≤ 1000000 := by
                  apply Nat.div_le_of_le_mul
                  rw [Nat.add_mul]
                  omega
                rw [if_neg (lN_m1 (Nat.lt_of_le_of_lt hq (by decide))), lN_mul, lN_mul, ← Nat.pow_succ]
                exact ⟨_, _, rfl, rfl, _, M2, by omega, rfl, rfl, by rw [Nat.pow_succ]; exact Nat.mul_le_mul hA hq, hz2⟩) (fun s t h => by
              obtain ⟨A, M', -, rfl, rfl, hA, hz⟩ := h
              unfold fX10_hay_L51 fX11_hay_L56
              dsimp only
              rw [if_pos (nI_le (Nat.le_refl _) (by omega)), if_pos (nI_le (Nat.le_refl _) (by omega))]
              exact ⟨_, _, rfl, rfl, Or.inr ⟨A, M', rfl, rfl, hA, hz⟩⟩) K 0 ((1 : Int64), (1 : Int64), (0 : Int32)) ((1 : Int64), (1 : Int64), (0 : Int32), M) (by omega) ⟨1, M, by omega, rfl, rfl, by decide, fz_refl M⟩
          rw [l1, l2]
          rcases hr with ⟨rfl, M', rfl, hz⟩ | ⟨A, M', rfl, rfl, hA, hz⟩
          · exact Or.inl ⟨0, 7, M', rfl, by show some (fX11_is 7 M') = _; rw [mis_ne (by decide)], hz⟩
          · have hp : 1000000 ^ K ≤ 1000000 ^ 3 := Nat.pow_le_pow_right (by decide) hK2
            have hp0 : 0 < 1000000 ^ K := Nat.pow_pos (by decide)
            obtain ⟨z1, z2⟩ := frac_eq kb M' (n := A) (d := 1000000 ^ K) (by omega) hp0 (by omega)
            dsimp only [Option.bind, Sum.elim]
            rw [z1, z2]
            exact Or.inr ⟨_, _, M', rfl, rfl, hz⟩
        · simp only [e5, e6, i00, i10, if_true]
          exact qf_no kb M (by decide)
    · simp only [e3, e4, i00, i10, if_true]
      exact qf_no kb M (by decide)
  · simp only [e1, e2, i00, i10, if_true]
    exact qf_no kb M (by decide)
