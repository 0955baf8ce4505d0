/-! ===== (B) seats: the reference's table, and both rows ===== -/
def cm (n s : Nat) : Nat := (2 ^ n - 1) &&& (255 ^^^ s)
theorem cm_bit {n s : Nat} (hn : n ≤ 8) (hs : s < 256) (k : Nat) : (cm n s).testBit k = (decide (k < n) && !s.testBit k) := by
  unfold cm
  rw [Nat.testBit_and, Nat.testBit_two_pow_sub_one, Nat.testBit_xor, show (255 : Nat) = 2 ^ 8 - 1 from rfl, Nat.testBit_two_pow_sub_one]
  by_cases hk : k < n
  · rw [decide_eq_true hk, decide_eq_true (show k < 8 by omega), Bool.true_xor]
  · rw [decide_eq_false hk]; rfl
theorem cm_lt {n s : Nat} (hn : n ≤ 8) : cm n s < 256 := by
  have : 2 ^ n ≤ 2 ^ 8 := Nat.pow_le_pow_right (by decide) hn
  have h0 : 0 < 2 ^ n := Nat.pow_pos (by decide)
  exact Nat.lt_of_le_of_lt Nat.and_le_left (by omega)
theorem cm_or {n s g : Nat} (hn : n ≤ 8) (hs : s < 256) (hg : g < 8) : cm n (s ||| 2 ^ g) = rm (cm n s) g := by
  have h7 : 2 ^ g ≤ 2 ^ 7 := Nat.pow_le_pow_right (by decide) (by omega)
  have hor : s ||| 2 ^ g < 256 := Nat.or_lt_two_pow (n := 8) hs (by omega)
  apply bits_eq (cm_lt hn) (Nat.lt_of_le_of_lt (rm_le _ _) (cm_lt hn))
  intro k hk
  rw [cm_bit hn hor, rm_bit (cm_lt hn), cm_bit hn hs, Nat.testBit_or, Nat.testBit_two_pow]
  by_cases c : k = g
  · subst c; simp
  · have c' : ¬ g = k := fun z => c z.symm
    simp [c, c']
theorem cm_0 {n : Nat} (hn : n ≤ 8) : cm n 0 = 2 ^ n - 1 := by
  have : 2 ^ n ≤ 2 ^ 8 := Nat.pow_le_pow_right (by decide) hn
  have h0 : 0 < 2 ^ n := Nat.pow_pos (by decide)
  apply bits_eq (cm_lt hn) (by omega)
  intro k hk
  rw [cm_bit hn (by decide), Nat.testBit_two_pow_sub_one, Nat.zero_testBit]
  simp
theorem cm_all {n : Nat} (hn : n ≤ 8) : cm n (2 ^ n - 1) = 0 := by
  have : 2 ^ n ≤ 2 ^ 8 := Nat.pow_le_pow_right (by decide) hn
  have h0 : 0 < 2 ^ n := Nat.pow_pos (by decide)
  apply bits_eq (cm_lt hn) (by decide)
  intro k hk
  rw [cm_bit hn (by omega), Nat.testBit_two_pow_sub_one, Nat.zero_testBit]
  cases decide (k < n) <;> rfl
theorem vld_cm {b : Rc} (hF : cF b ≤ 8) {s : Nat} (hs : s < 256) : vld b (cm (cF b) s) := by
  refine ⟨cm_lt hF, fun g hg => ?_⟩
  rw [cm_bit hF hs, Bool.and_eq_true] at hg
  exact of_decide_eq_true hg.1
theorem cm_ne {n s : Nat} (hn : n ≤ 8) (hs : s < 2 ^ n - 1) : ¬ cm n s = 0 := by
  intro h
  have h8 : 2 ^ n ≤ 2 ^ 8 := Nat.pow_le_pow_right (by decide) hn
  have : s = 2 ^ n - 1 := bits_eq (by omega) (by omega) (fun k hk => by
    have e := cm_bit hn (show s < 256 by omega) k
    rw [h, Nat.zero_testBit] at e
    rw [Nat.testBit_two_pow_sub_one]
    cases hd : decide (k < n) with
    | true =>
      rw [hd] at e
      cases hb : s.testBit k with
      | true => rfl
      | false => rw [hb] at e; cases e
    | false =>
      have hk2 := of_decide_eq_false hd
      have h2 : 2 ^ n ≤ 2 ^ k := Nat.pow_le_pow_right (by decide) (by omega)
      exact Nat.testBit_lt_two_pow (by omega))
  omega
theorem or_gt {s g : Nat} (h : s.testBit g = false) : s < s ||| 2 ^ g := by
  rcases Nat.lt_or_eq_of_le (Nat.left_le_or (n := s) (m := 2 ^ g)) with q | q
  · exact q
  · have e : (s ||| 2 ^ g).testBit g = true := by rw [Nat.testBit_or, Nat.testBit_two_pow, decide_eq_true rfl, Bool.or_true]
    rw [← q, h] at e; cases e
/-- the reference's table is right at a set -/
def CT (b : Rc) (C : Nat → Int32) (s : Nat) : Prop := ∀ f, f < cF b → C (8 * s + f) = nI (T_ b (cm (cF b) s) f)
theorem lay_in {b M : Rc} {n : Nat} (hR : RB b M 0 n) {s f : Nat} (hs : s < 2 ^ cF b) (hf : f < cF b) {C : Nat → Int32} (hC : ∀ t, s < t → t < 2 ^ cF b → CT b C t) (z : Nat) (hz : (s < 2 ^ cF b - 1 ∧ z = 1000000) ∨ (s = 2 ^ cF b - 1 ∧ z = 0)) (N1 N2 : Rc) (y : Int32) : loopF (fX11_laysCosts_L45 (nI s, N1) (nI f, sa M 29 C)) (nI z, (0 : Int32)) = some (nI (T_ b (cm (cF b) s) f)) := by
  have hF : cF b ≤ 8 := hR.1.1.2
  have h8 : 2 ^ cF b ≤ 2 ^ 8 := Nat.pow_le_pow_right (by decide) hF
  have hR' : RB b (sa M 29 C) 0 n := hR
  have step : ∀ i, i < cF b → ∀ x, x ≤ 1000000 → fX11_laysCosts_L45 (nI s, N1) (nI f, sa M 29 C) (nI x, nI i) = some (.inl (nI (if (cm (cF b) s).testBit i = true ∧ dG b f i + T_ b (rm (cm (cF b) s) i) i < x then dG b f i + T_ b (rm (cm (cF b) s) i) i else x), nI (i + 1))) := by
    intro i hi x hx
    unfold fX11_laysCosts_L45 lt_
    dsimp only
    rw [frms_eq hR', if_neg (nI_ge hi (by omega)), mbit s (by omega) i (by omega), nI_1, cm_bit hF (by omega), decide_eq_true hi]
    cases hb : s.testBit i with
    | true =>
      rw [if_neg (show ¬ b1 true = 0 by decide), if_neg (fun z => by cases z.1)]
    | false =>
      have h7 : 2 ^ i ≤ 2 ^ 7 := Nat.pow_le_pow_right (by decide) (by omega)
      have hor : s ||| 2 ^ i < 256 := Nat.or_lt_two_pow (n := 8) (by omega) (by omega)
      have horF : s ||| 2 ^ i < 2 ^ cF b := Nat.or_lt_two_pow hs (Nat.pow_lt_pow_right (by decide) hi)
      have ec := hC (s ||| 2 ^ i) (or_gt hb) horF i hi
      rw [cm_or hF (by omega) (by omega)] at ec
      have iy : ((8 : Int32) * nI (s ||| 2 ^ i)) + nI i = nI (8 * (s ||| 2 ^ i) + i) := by rw [show (8 : Int32) = nI 8 from rfl, nI_mul, nI_add]
      have hT := T_le hR.1 (show i < 8 by omega) (vld_rm (vld_cm hF (show s < 256 by omega)) i)
      have hd := (dG_eq hR.1 (show f < 8 by omega) (show i < 8 by omega)).2
      rw [if_pos (show b1 false = 0 from rfl), dlr.2, nx_one i (by omega), nx_or, iy, gd_pos (inbn (by omega) (by decide)), gd_pos (inbn (by omega) (by decide)), nI_clamp (by omega), nI_clamp (by omega), dl_eq hR' (by omega), (dG_eq hR.1 (show f < 8 by omega) (show i < 8 by omega)).1, ga_sa0, ec, nI_add]
      by_cases c : dG b f i + T_ b (rm (cm (cF b) s) i) i < x
      · rw [if_pos (nI_lt c (by omega)), if_pos ⟨rfl, c⟩]
      · rw [if_neg (nI_nlt (by omega) (by omega)), if_neg (fun z => c z.2)]
  have stop : ∀ x, fX11_laysCosts_L45 (nI s, N1) (nI f, sa M 29 C) (x, nI (cF b)) = some (.inr x) := by
    intro x
    unfold fX11_laysCosts_L45
    dsimp only
    rw [frms_eq hR', if_pos (nI_le (Nat.le_refl _) (by omega))]
  rcases hz with ⟨h1, rfl⟩ | ⟨h1, rfl⟩
  · rw [T_step hF (vld_cm hF (by omega)) (cm_ne hF h1)]
    refine loopF_run (b := fX11_laysCosts_L45 (nI s, N1) (nI f, sa M 29 C)) (fun i => (nI (mnv (cm (cF b) s).testBit (fun g => dG b f g + T_ b (rm (cm (cF b) s) g) g) i), nI i)) (cF b) (fun i hi => ?_) (stop _)
    rw [step i hi _ (mnv_FAR _ _ _), mnv_succ]
  · rw [h1, cm_all hF, T_zero]
    refine loopF_run (b := fX11_laysCosts_L45 (nI (2 ^ cF b - 1), N1) (nI f, sa M 29 C)) (fun i => (nI 0, nI i)) (cF b) (fun i hi => ?_) ?_
    · rw [← h1, step i hi 0 (by omega), if_neg (fun z => absurd z.2 (Nat.not_lt_zero _))]
    · rw [← h1]; exact stop _
theorem lay_row {b M : Rc} {n : Nat} (hR : RB b M 0 n) {s : Nat} (hs1 : 1 ≤ s) (hs : s < 2 ^ cF b) {C : Nat → Int32} (hC : ∀ t, s < t → t < 2 ^ cF b → CT b C t) : ∃ C', loopF (fX11_laysCosts_L19 (nI (2 ^ cF b - 1)) (nI s, sa M 29 C)) ((0 : Int32), sa M 29 C) = some (sa M 29 C') ∧ ∀ t, s ≤ t → t < 2 ^ cF b → CT b C' t := by
  have hF : cF b ≤ 8 := hR.1.1.2
  have h8 : 2 ^ cF b ≤ 2 ^ 8 := Nat.pow_le_pow_right (by decide) hF
  obtain ⟨r, l1, C', rfl, h1, h2⟩ := loop_one (b := fX11_laysCosts_L19 (nI (2 ^ cF b - 1)) (nI s, sa M 29 C)) (fun i z => ∃ C', z = (nI i, sa M 29 C') ∧ (∀ j, 8 * s + 8 ≤ j → C' j = C j) ∧ (∀ f, f < i → C' (8 * s + f) = nI (T_ b (cm (cF b) s) f))) (fun r => ∃ C', r = sa M 29 C' ∧ (∀ j, 8 * s + 8 ≤ j → C' j = C j) ∧ (∀ f, f < cF b → C' (8 * s + f) = nI (T_ b (cm (cF b) s) f))) (cF b) (fun i z hi h => by
      obtain ⟨C', rfl, h1, h2⟩ := h
      left
      have hR' : RB b (sa M 29 C') 0 n := hR
      have hC' : ∀ t, s < t → t < 2 ^ cF b → CT b C' t := fun t ht ht2 f hf => by
        rw [h1 _ (by omega)]; exact hC t ht ht2 f hf
      have iy : ((8 : Int32) * nI s) + nI i = nI (8 * s + i) := by rw [show (8 : Int32) = nI 8 from rfl, nI_mul, nI_add]
      have fin : ∀ z, ((s < 2 ^ cF b - 1 ∧ z = 1000000) ∨ (s = 2 ^ cF b - 1 ∧ z = 0)) → fX11_laysCosts_J40 (nI s, sa M 29 C) (nI i, sa M 29 C') (nI z) = some (.inl (nI (i + 1), sa M 29 (upd C' (8 * s + i) (nI (T_ b (cm (cF b) s) i))))) := by
        intro z hz
        unfold fX11_laysCosts_J40 lt_
        rw [lay_in hR hs hi hC' z hz _ M 0]
        dsimp only [Option.bind]
        rw [iy, gd_pos (inbn (by omega) (by decide)), nI_clamp (by omega), sa_sa, ga_sa0, nI_1]
      have res : ∃ s', some (Sum.inl (nI (i + 1), sa M 29 (upd C' (8 * s + i) (nI (T_ b (cm (cF b) s) i))))) = some (Sum.inl (β := Rc) s') ∧ ∃ C', s' = (nI (i + 1), sa M 29 C') ∧ (∀ j, 8 * s + 8 ≤ j → C' j = C j) ∧ (∀ f, f < i + 1 → C' (8 * s + f) = nI (T_ b (cm (cF b) s) f)) := by
        refine ⟨_, rfl, _, rfl, fun j hj => ?_, fun f hf => ?_⟩
        · rw [upd_ne _ _ (by omega)]; exact h1 j hj
        · by_cases c : f = i
          · subst c; exact upd_eq _ _ _
          · rw [upd_ne _ _ (by omega)]; exact h2 f (by omega)
      unfold fX11_laysCosts_L19
      dsimp only
      rw [frms_eq hR', if_neg (nI_ge hi (by omega))]
      by_cases c : s = 2 ^ cF b - 1
      · rw [if_pos (show nI s = nI (2 ^ cF b - 1) by rw [c]), show (0 : Int32) = nI 0 from rfl, fin 0 (Or.inr ⟨c, rfl⟩)]
        exact res
      · rw [if_neg (fun z => c ((nI_eq (by omega) (by omega)).mp z)), show (1000000 : Int32) = nI 1000000 from rfl, fin 1000000 (Or.inl ⟨by omega, rfl⟩)]
        exact res) (fun z h => by
      obtain ⟨C', rfl, h1, h2⟩ := h
      have hR' : RB b (sa M 29 C') 0 n := hR
      unfold fX11_laysCosts_L19
      dsimp only
      rw [frms_eq hR', if_pos (nI_le (Nat.le_refl _) (by omega))]
      exact ⟨_, rfl, C', rfl, h1, h2⟩) (cF b) 0 ((0 : Int32), sa M 29 C) (by omega) ⟨C, rfl, fun _ _ => rfl, fun f hf => absurd hf (Nat.not_lt_zero f)⟩
  refine ⟨C', l1, fun t ht ht2 => ?_⟩
  rcases Nat.lt_or_ge s t with q | q
  · intro f hf
    rw [h1 _ (by omega)]; exact hC t q ht2 f hf
  · have e : t = s := by omega
    subst e
    exact h2
theorem lay_tab {b M : Rc} {n : Nat} (hR : RB b M 0 n) : ∃ C, fX11_laysCosts M = some (sa M 29 C) ∧ ∀ t, 1 ≤ t → t < 2 ^ cF b → CT b C t := by
  have hF : cF b ≤ 8 := hR.1.1.2
  have h8 : 2 ^ cF b ≤ 2 ^ 8 := Nat.pow_le_pow_right (by decide) hF
  have h0 : 0 < 2 ^ cF b := Nat.pow_pos (by decide)
  obtain ⟨r, l1, C, rfl, hC⟩ := loop_one (b := fX11_laysCosts_L13 (nI (2 ^ cF b - 1))) (fun i z => ∃ C, z = (nI (2 ^ cF b - 1 - i), sa M 29 C) ∧ ∀ t, 2 ^ cF b - 1 - i < t → t < 2 ^ cF b → CT b C t) (fun r => ∃ C, r = sa M 29 C ∧ ∀ t, 1 ≤ t → t < 2 ^ cF b → CT b C t) (2 ^ cF b - 1) (fun i z hi h => by
      obtain ⟨C, rfl, hC⟩ := h
      left
      obtain ⟨C', r1, r2⟩ := lay_row hR (s := 2 ^ cF b - 1 - i) (by omega) (by omega) hC
      unfold fX11_laysCosts_L13
      dsimp only
      rw [if_neg (nI_nle (by omega) (by omega)), r1]
      have e : nI (2 ^ cF b - 1 - i) + (-1) = nI (2 ^ cF b - 1 - (i + 1)) := by
        apply i_ext
        have e1 : (nI (2 ^ cF b - 1 - i)).toInt = ((2 ^ cF b - 1 - i : Nat) : Int) := nI_toInt (by omega)
        have e2 : (-1 : Int32).toInt = -1 := rfl
        rw [i_add (by omega) (by omega), e1, e2, nI_toInt (by omega)]
        omega
      rw [e]
      exact ⟨_, rfl, C', rfl, fun t ht ht2 => r2 t (by omega) ht2⟩) (fun z h => by
      obtain ⟨C, rfl, hC⟩ := h
      unfold fX11_laysCosts_L13
      dsimp only
      rw [Nat.sub_self, if_pos (show nI 0 ≤ 0 by decide)]
      exact ⟨_, rfl, C, rfl, fun t ht ht2 => hC t (by omega) ht2⟩) (2 ^ cF b - 1) 0 (nI (2 ^ cF b - 1), M) (by omega) ⟨ga M 29, by rw [sa_id]; rfl, fun t ht ht2 => by omega⟩
  refine ⟨C, ?_, hC⟩
  unfold fX11_laysCosts lt_
  rw [frms_eq hR, all_set _ hF]
  dsimp only
  rw [l1]
  rfl
theorem least_eq {b M : Rc} {n : Nat} (hR : RB b M 0 n) {C : Nat → Int32} (hC : ∀ t, 1 ≤ t → t < 2 ^ cF b → CT b C t) : loopF (fX11_seats_L27 (nI (cF b)) (sa M 29 C)) ((1000000 : Int32), (0 : Int32)) = some (nI (mnv (2 ^ cF b - 1).testBit (cv b none (2 ^ cF b - 1)) (cF b))) := by
  have hF : cF b ≤ 8 := hR.1.1.2
  have h8 : 2 ^ cF b ≤ 2 ^ 8 := Nat.pow_le_pow_right (by decide) hF
  have h0 : 0 < 2 ^ cF b := Nat.pow_pos (by decide)
  refine loopF_run (b := fX11_seats_L27 (nI (cF b)) (sa M 29 C)) (fun i => (nI (mnv (2 ^ cF b - 1).testBit (cv b none (2 ^ cF b - 1)) i), nI i)) (cF b) (fun i hi => ?_) ?_
  · have h7 : 2 ^ i ≤ 2 ^ 7 := Nat.pow_le_pow_right (by decide) (by omega)
    have hi0 : 0 < 2 ^ i := Nat.pow_pos (by decide)
    have hiF : 2 ^ i < 2 ^ cF b := Nat.pow_lt_pow_right (by decide) hi
    have iy : ((8 : Int32) * nI (2 ^ i)) + nI i = nI (8 * 2 ^ i + i) := by rw [show (8 : Int32) = nI 8 from rfl, nI_mul, nI_add]
    have ec := hC (2 ^ i) hi0 hiF i hi
    have ecm : cm (cF b) (2 ^ i) = rm (2 ^ cF b - 1) i := by
      have := cm_or hF (s := 0) (g := i) (by decide) (by omega)
      rw [Nat.zero_or, cm_0 hF] at this
      exact this
    rw [ecm] at ec
    have hT := T_le hR.1 (show i < 8 by omega) (vld_rm (vld_set hF (show 2 ^ cF b - 1 < 2 ^ cF b by omega)) i)
    have hm := mnv_FAR (2 ^ cF b - 1).testBit (cv b none (2 ^ cF b - 1)) i
    have ecv : cv b none (2 ^ cF b - 1) i = T_ b (rm (2 ^ cF b - 1) i) i := Nat.zero_add _
    unfold fX11_seats_L27 lt_
    dsimp only
    rw [if_neg (nI_ge hi (by omega)), nx_one i (by omega), iy, gd_pos (inbn (by omega) (by decide)), nI_clamp (by omega), ga_sa0, ec, nI_1, mnv_succ, Nat.testBit_two_pow_sub_one, decide_eq_true hi, ecv]
    by_cases c : T_ b (rm (2 ^ cF b - 1) i) i < mnv (2 ^ cF b - 1).testBit (cv b none (2 ^ cF b - 1)) i
    · rw [if_pos (nI_lt c (by omega)), if_pos ⟨rfl, c⟩]
    · rw [if_neg (nI_nlt (by omega) (by omega)), if_neg (fun z => c z.2)]
  · unfold fX11_seats_L27
    dsimp only
    rw [if_pos (nI_le (Nat.le_refl _) (by omega))]
theorem si31 (M : Rc) (ρ : Nat → Int32) (v : Int32) : gi (si (sa M 30 ρ) 31 v) 31 = v := rfl
def lf (b : Rc) (o : Option Nat) (rest : Nat) : Nat := if rest = 0 then 0 else mnv rest.testBit (cv b o rest) (cF b)
/-- both sit down, one after another -/
theorem sit_loops {b M S0 : Rc} {n : Nat} (hR : RB b M 0 n) {L C : Nat → Int32} (hL : ∀ t, t < 2 ^ cF b → LT b L t) (hC : ∀ t, 1 ≤ t → t < 2 ^ cF b → CT b C t) (hS : ga S0 0 = L) (hM : ga M 29 = C) (h1 : 1 ≤ cF b) : ∃ ρ σ : Nat → Int32, loopF (fX7_sitDown_L29 b) (nI (2 ^ cF b - 1), (-1 : Int32), (0 : Int32), si S0 2 0) = some (si (sa S0 1 ρ) 2 (nI (cF b))) ∧ loopF (fX11_seats_L66 (nI (cF b))) ((0 : Int32), nI (mnv (2 ^ cF b - 1).testBit (cv b none (2 ^ cF b - 1)) (cF b)), si M 31 0) = some (si (sa M 30 σ) 31 (nI (cF b))) ∧ ∀ j, j < cF b → ρ j = σ j := by
  have hF : cF b ≤ 8 := hR.1.1.2
  have hB := hR.1
  have h8 : 2 ^ cF b ≤ 2 ^ 8 := Nat.pow_le_pow_right (by decide) hF
  have h0 : 0 < 2 ^ cF b := Nat.pow_pos (by decide)
  have hne1 : ¬ 2 ^ cF b - 1 = 0 := by
    have : 2 ^ 1 ≤ 2 ^ cF b := Nat.pow_le_pow_right (by decide) h1
    omega
  have hlf0 : lf b none (2 ^ cF b - 1) = mnv (2 ^ cF b - 1 : Nat).testBit (cv b none (2 ^ cF b - 1)) (cF b) := by
    unfold lf
    rw [if_neg hne1]
  obtain ⟨r, k, l1, l2, ρ, σ, rfl, rfl, he⟩ := loop_rel (b := fX7_sitDown_L29 b) (c := fX11_seats_L66 (nI (cF b))) (fun i z t => ∃ (used : Nat) (o : Option Nat) (ρ σ : Nat → Int32), z = (nI (cm (cF b) used), oi o, nI i, si (sa S0 1 ρ) 2 (nI i)) ∧ t = (nI used, nI (lf b o (cm (cF b) used)), si (sa M 30 σ) 31 (nI i)) ∧ used < 2 ^ cF b ∧ ct used.testBit 8 = i ∧ okO o ∧ ((i = 0 ∧ o = none) ∨ ∃ f, 1 ≤ i ∧ o = some f ∧ f < 8 ∧ σ (i - 1) = nI f) ∧ (∀ j, j < i → ρ j = σ j)) (fun r t => ∃ ρ σ : Nat → Int32, r = si (sa S0 1 ρ) 2 (nI (cF b)) ∧ t = si (sa M 30 σ) 31 (nI (cF b)) ∧ ∀ j, j < cF b → ρ j = σ j) (cF b) (fun i z t hi h => by
      obtain ⟨used, o, ρ, σ, rfl, rfl, hu, hct, ho, hlast, heq⟩ := h
      left
      have hu256 : used < 256 := by omega
      have hv := vld_cm (b := b) hF hu256
      have hcm : cm (cF b) used < 2 ^ cF b := by
        have : cm (cF b) used ≤ 2 ^ cF b - 1 := Nat.and_le_left
        omega
      have hLc : LT b (ga (si (sa S0 1 ρ) 2 (nI i)) 0) (cm (cF b) used) := by
        rw [show ga (si (sa S0 1 ρ) 2 (nI i)) 0 = ga S0 0 from rfl, hS]
        exact hL _ hcm
      -- somebody is left
      have hne : ¬ am (cm (cF b) used).testBit (cv b o (cm (cF b) used)) (cF b) = none := by
        intro z
        have hn := am_none z
        have e : ct used.testBit 8 = ct (fun k => decide (k < cF b)) 8 := ct_cong (fun k hk => by
          have q := cm_bit hF hu256 k
          by_cases c : k < cF b
          · rw [hn k c, decide_eq_true c] at q
            rw [decide_eq_true c]
            cases hb : used.testBit k with
            | true => rfl
            | false => rw [hb] at q; cases q
          · rw [decide_eq_false c]
            have h2 : 2 ^ cF b ≤ 2 ^ k := Nat.pow_le_pow_right (by decide) (by omega)
            exact Nat.testBit_lt_two_pow (by omega))
        have e2 : ct (fun k => decide (k < cF b)) 8 = cF b := by
          rw [ct_cut (p := fun k => decide (k < cF b)) (m := cF b) (fun k hk => decide_eq_false (by omega)) 8 hF]
          have := ct_not (fun k => decide (k < cF b)) (cF b)
          rw [ct_none (p := fun k => !decide (k < cF b)) (fun k hk => by rw [decide_eq_true hk]; rfl)] at this
          omega
        omega
      have hne0 : ¬ cm (cF b) used = 0 := fun z => hne (by
        rw [z]
        have : ∀ k, am (0 : Nat).testBit (cv b o 0) k = none := by
          intro k
          induction k with
          | zero => rfl
          | succ k ih => rw [am_succ, Nat.zero_testBit, if_neg (by decide), ih]
        exact this _)
      have hlf : lf b o (cm (cF b) used) = mnv (cm (cF b) used).testBit (cv b o (cm (cF b) used)) (cF b) := if_neg hne0
      rw [hlf]
      cases ha : am (cm (cF b) used).testBit (cv b o (cm (cF b) used)) (cF b) with
      | none => exact absurd ha hne
      | some g =>
        obtain ⟨a1, a2, a3, a4⟩ := am_some ha
        have hg8 : g < 8 := by omega
        have hgc := cv_le hB ho hg8 hv
        have em := am_mnv ha (by omega)
        have hgu : used.testBit g = false := by
          have q := cm_bit hF hu256 g
          rw [a2, decide_eq_true a1] at q
          cases hb : used.testBit g with
          | false => rfl
          | true => rw [hb] at q; cases q
        -- what the reference adds behind the last
        have hbeh : ∀ f, f < cF b → fX11_behind (nI f) (si (sa M 30 σ) 31 (nI i)) = some (nI (pv b o f)) := by
          intro f hf
          unfold fX11_behind
          rw [si31]
          rcases hlast with ⟨rfl, rfl⟩ | ⟨l, hi1, rfl, hl, hσ⟩
          · rw [if_pos (show nI 0 = 0 from rfl)]; rfl
          · obtain ⟨j, rfl⟩ : ∃ j, i = j + 1 := ⟨i - 1, by omega⟩
            rw [if_neg (nI_ne0 (by omega) (by omega)), nI_pred, gd_pos (inbn (by omega) (by decide)), nI_clamp (by omega)]
            have e30 : ga (si (sa M 30 σ) 31 (nI (j + 1))) 30 j = nI l := hσ
            have hR' : RB b (si (sa M 30 σ) 31 (nI (j + 1))) 0 n := hR
            rw [e30, dlr.2, gd_pos (inbn (by omega) (by decide)), nI_clamp (by omega), dl_eq hR' (by omega), (dG_eq hB hl (by omega)).1]
            rfl
        have iy : ∀ u f : Nat, ((8 : Int32) * nI u) + nI f = nI (8 * u + f) := fun u f => by rw [show (8 : Int32) = nI 8 from rfl, nI_mul, nI_add]
        -- the reference's search
        have hsearch : loopF (fX11_seats_L77 (nI used, nI (mnv (cm (cF b) used).testBit (cv b o (cm (cF b) used)) (cF b)), si (sa M 30 σ) 31 (nI i))) (0 : Int32) = some (nI g) := by
          have one : ∀ f, f < cF b → used.testBit f = false → fX11_seats_L77 (nI used, nI (mnv (cm (cF b) used).testBit (cv b o (cm (cF b) used)) (cF b)), si (sa M 30 σ) 31 (nI i)) (nI f) = if nI (cv b o (cm (cF b) used) f) = nI (cv b o (cm (cF b) used) g) then some (.inr (nI f)) else some (.inl (nI (f + 1))) := by
            intro f hf hfu
            have h7 : 2 ^ f ≤ 2 ^ 7 := Nat.pow_le_pow_right (by decide) (by omega)
            have hor : used ||| 2 ^ f < 256 := Nat.or_lt_two_pow (n := 8) (by omega) (by omega)
            have horF : used ||| 2 ^ f < 2 ^ cF b := Nat.or_lt_two_pow hu (Nat.pow_lt_pow_right (by decide) hf)
            have hor1 : 1 ≤ used ||| 2 ^ f := by have := or_gt hfu; omega
            have ec := hC (used ||| 2 ^ f) hor1 horF f hf
            rw [cm_or hF (by omega) (by omega)] at ec
            unfold fX11_seats_L77
            dsimp only
            rw [mbit used hu256 f (by omega), hfu, if_neg (show ¬ b1 false = 1 by decide), hbeh f hf]
            dsimp only [Option.bind]
            have e29 : ga (si (sa M 30 σ) 31 (nI i)) 29 = C := hM
            rw [nx_one f (by omega), nx_or, iy, gd_pos (inbn (by omega) (by decide)), nI_clamp (by omega), e29, ec, nI_add, nI_1, ← em]
            rfl
          refine loopF_run (b := fX11_seats_L77 _) (fun j => nI j) g (fun j hj => ?_) ?_
          · cases hju : used.testBit j with
            | true =>
              unfold fX11_seats_L77
              dsimp only
              rw [mbit used hu256 j (by omega), hju, if_pos (show b1 true = 1 from rfl), nI_1]
            | false =>
              rw [one j (by omega) hju]
              have hpj : (cm (cF b) used).testBit j = true := by rw [cm_bit hF hu256, hju, decide_eq_true (show j < cF b by omega)]; rfl
              have := a4 j hj hpj
              have c2 := cv_le hB ho (show j < 8 by omega) hv
              rw [if_neg (fun z => by have := (nI_eq (by omega) (by omega)).mp z; omega)]
          · rw [one g a1 hgu, if_pos rfl]
        have h7 : 2 ^ g ≤ 2 ^ 7 := Nat.pow_le_pow_right (by decide) (by omega)
        have horF : used ||| 2 ^ g < 2 ^ cF b := Nat.or_lt_two_pow hu (Nat.pow_lt_pow_right (by decide) a1)
        have hct' : ct (used ||| 2 ^ g).testBit 8 = i + 1 := by
          have e := ct_one (p := used.testBit) (q := (used ||| 2 ^ g).testBit) (D := g) (fun k hk => by rw [Nat.testBit_or, Nat.testBit_two_pow, decide_eq_false (fun z => hk z.symm), Bool.or_false]) (N := 8) hg8
          rw [hgu, Nat.testBit_or, Nat.testBit_two_pow, decide_eq_true rfl, Bool.or_true] at e
          simp at e
          omega
        have hleft : nI (mnv (cm (cF b) used).testBit (cv b o (cm (cF b) used)) (cF b)) - nI (pv b o g) = nI (T_ b (cm (cF b) (used ||| 2 ^ g)) g) := by
          rw [← em, cm_or hF hu256 hg8]
          have e1 : (nI (cv b o (cm (cF b) used) g)).toInt = ((cv b o (cm (cF b) used) g : Nat) : Int) := nI_toInt (by omega)
          have hT := T_le hB hg8 (vld_rm hv g)
          have ecv : cv b o (cm (cF b) used) g = pv b o g + T_ b (rm (cm (cF b) used) g) g := rfl
          have e2 : (nI (pv b o g)).toInt = ((pv b o g : Nat) : Int) := nI_toInt (by omega)
          apply i_ext
          rw [i_sub (by omega) (by omega), e1, e2, nI_toInt (by omega)]
          omega
        have hT2 : T_ b (cm (cF b) (used ||| 2 ^ g)) g = lf b (some g) (cm (cF b) (used ||| 2 ^ g)) := by
          unfold lf
          by_cases q : cm (cF b) (used ||| 2 ^ g) = 0
          · rw [if_pos q, q, T_zero]
          · rw [if_neg q, T_step hF (vld_cm hF (by omega)) q]; rfl
        unfold fX7_sitDown_L29 fX11_seats_L66 lt_
        dsimp only
        rw [si31, hB.1.1, if_neg (nI_ge hi (by omega)), if_neg (nI_ge hi (by omega)), cheap_eq hB ho hv hLc, ha, hsearch]
        dsimp only [Option.bind]
        rw [show oi (some g) = nI g from rfl, if_neg (nI_m1 (by omega)), hbeh g a1]
        dsimp only
        rw [gd_pos (inbn (by omega) (by decide)), gd_pos (inbn (by omega) (by decide)), nI_clamp (by omega), nx_one g (by omega), nx_not _ (by omega) _ (by omega), nx_or, nI_1, hleft]
        have eS : si (sa (si (sa S0 1 ρ) 2 (nI i)) 1 (upd (ga (si (sa S0 1 ρ) 2 (nI i)) 1) i (nI g))) 2 (nI (i + 1)) = si (sa S0 1 (upd ρ i (nI g))) 2 (nI (i + 1)) := by
          show si (si (sa (sa S0 1 ρ) 1 (upd ρ i (nI g))) 2 (nI i)) 2 (nI (i + 1)) = _
          rw [si_si, sa_sa]
        have eM : si (sa (si (sa M 30 σ) 31 (nI i)) 30 (upd (ga (si (sa M 30 σ) 31 (nI i)) 30) i (nI g))) 31 (gi (sa (si (sa M 30 σ) 31 (nI i)) 30 (upd (ga (si (sa M 30 σ) 31 (nI i)) 30) i (nI g))) 31 + 1) = si (sa M 30 (upd σ i (nI g))) 31 (nI (i + 1)) := by
          show si (si (sa (sa M 30 σ) 30 (upd σ i (nI g))) 31 (nI i)) 31 (nI i + 1) = _
          rw [si_si, sa_sa, nI_1]
        rw [eS, eM, show cm (cF b) used &&& (255 ^^^ 2 ^ g) = rm (cm (cF b) used) g from rfl, ← cm_or hF hu256 hg8]
        rw [hT2]
        refine ⟨_, _, rfl, rfl, used ||| 2 ^ g, some g, upd ρ i (nI g), upd σ i (nI g), rfl, rfl, horF, hct', hg8, Or.inr ⟨g, by omega, rfl, hg8, upd_eq _ _ _⟩, fun j hj => ?_⟩
        by_cases c : j = i
        · subst c; rw [upd_eq, upd_eq]
        · rw [upd_ne _ _ c, upd_ne _ _ c]; exact heq j (by omega)) (fun z t h => by
      obtain ⟨used, o, ρ, σ, rfl, rfl, hu, hct, ho, hlast, heq⟩ := h
      unfold fX7_sitDown_L29 fX11_seats_L66
      dsimp only
      rw [si31, hB.1.1, if_pos (nI_le (Nat.le_refl _) (by omega)), if_pos (nI_le (Nat.le_refl _) (by omega))]
      exact ⟨_, _, rfl, rfl, ρ, σ, rfl, rfl, heq⟩) (cF b) 0 (nI (2 ^ cF b - 1), (-1 : Int32), (0 : Int32), si S0 2 0) ((0 : Int32), nI (mnv (2 ^ cF b - 1).testBit (cv b none (2 ^ cF b - 1)) (cF b)), si M 31 0) (by omega) ⟨0, none, ga S0 1, ga M 30, by rw [cm_0 hF, sa_id]; rfl, by rw [cm_0 hF, sa_id, hlf0]; rfl, h0, by exact (ct_bit0 (by decide)).mpr rfl, trivial, Or.inl ⟨rfl, rfl⟩, fun j hj => absurd hj (Nat.not_lt_zero j)⟩
  exact ⟨ρ, σ, l1, l2, he⟩
theorem rel_seats {sg : Nat → Rc} {M S : Rc} (h : Rel sg M) (C σ : Nat → Int32) (v : Int32) (hw : RW_ S (si (sa (sa M 29 C) 30 σ) 31 v)) (st : Int32) : Rel (va_up (va_up sg 0 (si (sg 0) 16 st)) 23 S) (si (si (sa (sa M 29 C) 30 σ) 31 v) 2 st) := by
  obtain ⟨h1, h2, h3, h4, h5, h6, h7, h8, h9, h10⟩ := h
  exact ⟨st_eq h1 st, h2, h3, h4, h5, h6, h7, hw, h9, h10⟩
theorem b_seats : BT_seats Rel := by
  intro sg M hR
  have hb := hR.2.1
  have hB := hb.1
  have hF : cF (sg 1) ≤ 8 := hB.1.2
  unfold fX10_seats fX11_seats lt_
  rw [frms_eq hb, hB.1.1]
  dsimp only
  rcases Nat.eq_zero_or_pos (cF (sg 1)) with h0 | h1
  · rw [h0, if_pos (show nI 0 = 0 from rfl), if_pos (show nI 0 = 0 from rfl)]
    refine ⟨_, _, rfl, rfl, rfl, ?_⟩
    obtain ⟨h1, h2, h3, h4, h5, h6, h7, h8, h9, h10⟩ := hR
    exact ⟨st_eq h1 6, h2, h3, h4, h5, h6, h7, h8, h9, h10⟩
  · rw [if_neg (nI_ne0 h1 (by omega)), if_neg (nI_ne0 h1 (by omega))]
    obtain ⟨L, t1, hL⟩ := seat_tab (S0 := sg 23) hB
    obtain ⟨C, t2, hC⟩ := lay_tab hb
    have hb2 : RB (sg 1) (sa M 29 C) 0 0 := hb
    obtain ⟨ρ, σ, s1, s2, s3⟩ := sit_loops (S0 := sa (sg 23) 0 L) hb2 hL hC (ga_sa0 _ _ _) (ga_sa0 _ _ _) h1
    have hv := vld_set hF (show 2 ^ cF (sg 1) - 1 < 2 ^ cF (sg 1) by have := Nat.pow_pos (n := cF (sg 1)) (show 0 < 2 by decide); omega)
    have hLa : LT (sg 1) (ga (sa (sg 23) 0 L) 0) (2 ^ cF (sg 1) - 1) := by
      rw [ga_sa0]
      exact hL _ (by have := Nat.pow_pos (n := cF (sg 1)) (show 0 < 2 by decide); omega)
    have hne : ¬ 2 ^ cF (sg 1) - 1 = 0 := by have : 2 ^ 1 ≤ 2 ^ cF (sg 1) := Nat.pow_le_pow_right (by decide) h1; omega
    have e1 := cheap_eq (o := none) hB trivial hv hLa
    have e2 := cheap_cost (o := none) hB trivial hv hLa
    rw [if_neg hne] at e2
    rw [show oi none = -1 from rfl] at e1 e2
    unfold fX7_seat lt_
    rw [hB.1.1, all_set _ hF]
    dsimp only
    rw [t1, t2]
    dsimp only [Option.bind]
    unfold fX7_sitDown lt_
    rw [e1]
    dsimp only [Option.bind]
    rw [e2, least_eq hb hC]
    dsimp only
    rw [s1, s2]
    refine ⟨_, _, rfl, rfl, rfl, rel_seats hR C σ _ ?_ 0⟩
    refine ⟨rfl, ?_, fun k hk hk2 => ?_⟩
    · show 0 ≤ (nI (cF (sg 1))).toInt ∧ (nI (cF (sg 1))).toInt ≤ 8
      rw [nI_toInt (by omega)]; omega
    · have hk3 : (k : Int) < (nI (cF (sg 1))).toInt := hk2
      rw [nI_toInt (by omega)] at hk3
      exact s3 k (by omega)
