/-! ===== (B) seats: sets, least costs ===== -/
def rm (s f : Nat) : Nat := s &&& (255 ^^^ 2 ^ f)
theorem bit_ge {s k : Nat} (hs : s < 256) (hk : 8 ≤ k) : s.testBit k = false := Nat.testBit_lt_two_pow (Nat.lt_of_lt_of_le hs (show 2 ^ 8 ≤ 2 ^ k from Nat.pow_le_pow_right (by decide) hk))
theorem rm_bit {s : Nat} (hs : s < 256) (f k : Nat) : (rm s f).testBit k = (s.testBit k && decide (¬ k = f)) := by
  unfold rm
  rw [Nat.testBit_and]
  by_cases hk : k < 8
  · rw [Nat.testBit_xor, Nat.testBit_two_pow, show (255 : Nat) = 2 ^ 8 - 1 from rfl, Nat.testBit_two_pow_sub_one, decide_eq_true hk]
    congr 1
    by_cases c : k = f
    · rw [decide_eq_true c.symm, decide_eq_false (fun z => z c)]; rfl
    · rw [decide_eq_false (fun z => c z.symm), decide_eq_true c]; rfl
  · rw [bit_ge hs (by omega)]; rfl
theorem rm_le (s f : Nat) : rm s f ≤ s := Nat.and_le_left
theorem rm_lt {s f : Nat} (hs : s < 256) (h : s.testBit f = true) : rm s f < s := by
  rcases Nat.lt_or_eq_of_le (rm_le s f) with q | q
  · exact q
  · have := rm_bit hs f f
    rw [q, h] at this
    simp at this
theorem rm_ct {s f : Nat} (hs : s < 256) (hf : f < 8) (h : s.testBit f = true) : ct (rm s f).testBit 8 + 1 = ct s.testBit 8 := by
  have e := ct_one (p := s.testBit) (q := (rm s f).testBit) (D := f) (fun k hk => by rw [rm_bit hs, decide_eq_true hk, Bool.and_true]) (N := 8) hf
  rw [h, rm_bit hs, decide_eq_false (fun z => z rfl), Bool.and_false] at e
  simpa using e
theorem ct_bit0 {s : Nat} (hs : s < 256) : ct s.testBit 8 = 0 ↔ s = 0 := by
  constructor
  · intro h
    apply bits_eq hs (by decide)
    intro k hk
    rw [Nat.zero_testBit]
    cases hb : s.testBit k with
    | false => rfl
    | true =>
      have := an_true hb hk
      rw [an_ct, h] at this
      exact absurd this (by decide)
  · intro h
    subst h
    exact ct_none (fun k _ => Nat.zero_testBit k)
/-- the least, of those that are asked for -/
def mnv (p : Nat → Bool) (v : Nat → Nat) : Nat → Nat
  | 0 => 1000000
  | i + 1 => if p i = true ∧ v i < mnv p v i then v i else mnv p v i
theorem mnv_succ (p : Nat → Bool) (v : Nat → Nat) (i : Nat) : mnv p v (i + 1) = if p i = true ∧ v i < mnv p v i then v i else mnv p v i := rfl
theorem mnv_cong {p q : Nat → Bool} {v w : Nat → Nat} : ∀ {n : Nat}, (∀ k, k < n → p k = q k) → (∀ k, k < n → p k = true → v k = w k) → mnv p v n = mnv q w n := by
  intro n
  induction n with
  | zero => intro _ _; rfl
  | succ n ih =>
    intro h1 h2
    rw [mnv_succ, mnv_succ, ih (fun k hk => h1 k (by omega)) (fun k hk => h2 k (by omega)), ← h1 n (by omega)]
    by_cases c : p n = true
    · rw [h2 n (by omega) c]
    · rw [if_neg (fun z => c z.1), if_neg (fun z => c z.1)]
theorem mnv_le {p : Nat → Bool} {v : Nat → Nat} : ∀ {n : Nat} {g : Nat}, g < n → p g = true → mnv p v n ≤ v g := by
  intro n
  induction n with
  | zero => intro g hg; exact absurd hg (Nat.not_lt_zero g)
  | succ n ih =>
    intro g hg hp
    rw [mnv_succ]
    by_cases c : g = n
    · subst c
      split
      · exact Nat.le_refl _
      · rename_i h
        rcases Nat.lt_or_ge (v g) (mnv p v g) with q | q
        · exact absurd ⟨hp, q⟩ h
        · exact q
    · have := ih (show g < n by omega) hp
      split
      · rename_i h; omega
      · exact this
theorem mnv_FAR (p : Nat → Bool) (v : Nat → Nat) : ∀ n, mnv p v n ≤ 1000000 := by
  intro n
  induction n with
  | zero => exact Nat.le_refl _
  | succ n ih => rw [mnv_succ]; split <;> omega
/-- the first of the least -/
def am (p : Nat → Bool) (v : Nat → Nat) : Nat → Option Nat
  | 0 => none
  | i + 1 => if p i = true then (match am p v i with
    | none => some i
    | some g => if v i < v g then some i else some g) else am p v i
theorem am_succ (p : Nat → Bool) (v : Nat → Nat) (i : Nat) : am p v (i + 1) = if p i = true then (match am p v i with
    | none => some i
    | some g => if v i < v g then some i else some g) else am p v i := rfl
theorem am_none {p : Nat → Bool} {v : Nat → Nat} : ∀ {n : Nat}, am p v n = none → ∀ k, k < n → p k = false := by
  intro n
  induction n with
  | zero => intro _ k hk; exact absurd hk (Nat.not_lt_zero k)
  | succ n ih =>
    intro h k hk
    rw [am_succ] at h
    cases hp : p n with
    | true =>
      rw [hp, if_pos rfl] at h
      cases ha : am p v n with
      | none => rw [ha] at h; cases h
      | some g => rw [ha] at h; dsimp only at h; split at h <;> cases h
    | false =>
      rw [hp, if_neg (by decide)] at h
      rcases Nat.lt_or_ge k n with q | q
      · exact ih h k q
      · rw [show k = n by omega]; exact hp
theorem am_some {p : Nat → Bool} {v : Nat → Nat} : ∀ {n g : Nat}, am p v n = some g → g < n ∧ p g = true ∧ (∀ j, j < n → p j = true → v g ≤ v j) ∧ (∀ j, j < g → p j = true → v g < v j) := by
  intro n
  induction n with
  | zero => intro g h; cases h
  | succ n ih =>
    intro g h
    rw [am_succ] at h
    cases hp : p n with
    | true =>
      rw [hp, if_pos rfl] at h
      cases ha : am p v n with
      | none =>
        rw [ha] at h
        have e : n = g := Option.some.inj h
        subst e
        have hn := am_none ha
        refine ⟨by omega, hp, fun j hj hpj => ?_, fun j hj hpj => ?_⟩
        · rcases Nat.lt_or_ge j n with q | q
          · rw [hn j q] at hpj; cases hpj
          · rw [show j = n by omega]; exact Nat.le_refl _
        · rw [hn j hj] at hpj; cases hpj
      | some g0 =>
        rw [ha] at h
        dsimp only at h
        obtain ⟨a1, a2, a3, a4⟩ := ih ha
        split at h
        · rename_i hlt
          have e : n = g := Option.some.inj h
          subst e
          refine ⟨by omega, hp, fun j hj hpj => ?_, fun j hj hpj => ?_⟩
          · rcases Nat.lt_or_ge j n with q | q
            · have := a3 j q hpj; omega
            · rw [show j = n by omega]; exact Nat.le_refl _
          · have := a3 j hj hpj; omega
        · rename_i hlt
          have e : g0 = g := Option.some.inj h
          subst e
          refine ⟨by omega, a2, fun j hj hpj => ?_, a4⟩
          rcases Nat.lt_or_ge j n with q | q
          · exact a3 j q hpj
          · rw [show j = n by omega]; omega
    | false =>
      rw [hp, if_neg (by decide)] at h
      obtain ⟨a1, a2, a3, a4⟩ := ih h
      refine ⟨by omega, a2, fun j hj hpj => ?_, a4⟩
      rcases Nat.lt_or_ge j n with q | q
      · exact a3 j q hpj
      · rw [show j = n by omega, hp] at hpj; cases hpj
theorem mnv_ge {p : Nat → Bool} {v : Nat → Nat} {m : Nat} (hm : m ≤ 1000000) : ∀ {n : Nat}, (∀ j, j < n → p j = true → m ≤ v j) → m ≤ mnv p v n := by
  intro n
  induction n with
  | zero => intro _; exact hm
  | succ n ih =>
    intro h
    rw [mnv_succ]
    split
    · rename_i hh; exact h n (by omega) hh.1
    · exact ih (fun j hj => h j (by omega))
theorem am_mnv {p : Nat → Bool} {v : Nat → Nat} {n g : Nat} (h : am p v n = some g) (hv : v g < 1000000) : v g = mnv p v n := by
  obtain ⟨a1, a2, a3, a4⟩ := am_some h
  have h1 := mnv_le (v := v) a1 a2
  have h2 := mnv_ge (p := p) (v := v) (m := v g) (by omega) (n := n) a3
  omega
/-- by how much one dislikes another -/
def dG (b : Rc) (f g : Nat) : Nat := (ga b 7 (8 * f + g)).toInt.toNat
theorem dG_eq {b : Rc} (hB : BI b) {f g : Nat} (hf : f < 8) (hg : g < 8) : ga b 7 (8 * f + g) = nI (dG b f g) ∧ dG b f g ≤ 99 := by
  obtain ⟨a1, a2⟩ := hB.2.2.2.2.2.2.1 (8 * f + g) (by omega)
  unfold dG
  exact ⟨i_nat a1, by omega⟩
/-- what it costs to seat the rest behind one -/
def TT (b : Rc) : Nat → Nat → Nat → Nat
  | 0, _, _ => 0
  | k + 1, rest, f => mnv rest.testBit (fun g => dG b f g + TT b k (rm rest g) g) (cF b)
def T_ (b : Rc) (rest f : Nat) : Nat := TT b (ct rest.testBit 8) rest f
def vld (b : Rc) (rest : Nat) : Prop := rest < 256 ∧ ∀ g, rest.testBit g = true → g < cF b
theorem vld_rm {b : Rc} {rest : Nat} (h : vld b rest) (g : Nat) : vld b (rm rest g) := by
  refine ⟨Nat.lt_of_le_of_lt (rm_le _ _) h.1, fun k hk => h.2 k ?_⟩
  rw [rm_bit h.1, Bool.and_eq_true] at hk
  exact hk.1
theorem T_zero (b : Rc) (f : Nat) : T_ b 0 f = 0 := by
  unfold T_
  rw [(ct_bit0 (by decide)).mpr rfl]; rfl
theorem T_step {b : Rc} (hF : cF b ≤ 8) {rest : Nat} (h : vld b rest) (h0 : ¬ rest = 0) (f : Nat) : T_ b rest f = mnv rest.testBit (fun g => dG b f g + T_ b (rm rest g) g) (cF b) := by
  have hc : ¬ ct rest.testBit 8 = 0 := fun z => h0 ((ct_bit0 h.1).mp z)
  obtain ⟨k, hk⟩ : ∃ k, ct rest.testBit 8 = k + 1 := ⟨ct rest.testBit 8 - 1, by omega⟩
  unfold T_
  rw [hk]
  show mnv rest.testBit (fun g => dG b f g + TT b k (rm rest g) g) (cF b) = _
  refine mnv_cong (fun _ _ => rfl) (fun g hg hp => ?_)
  have := rm_ct h.1 (show g < 8 by omega) hp
  rw [show ct (rm rest g).testBit 8 = k by omega]
theorem TT_le {b : Rc} (hB : BI b) : ∀ k rest f, f < 8 → vld b rest → ct rest.testBit 8 = k → TT b k rest f ≤ 99 * k := by
  have hF : cF b ≤ 8 := hB.1.2
  intro k
  induction k with
  | zero => intro rest f _ _ _; exact Nat.le_refl _
  | succ k ih =>
    intro rest f hf h hc
    have h0 : an rest.testBit 8 = true := by rw [an_ct, hc]; simp
    have hex : ∃ g, g < 8 ∧ rest.testBit g = true := by
      rcases Classical.em (∃ g, g < 8 ∧ rest.testBit g = true) with q | q
      · exact q
      · exfalso
        have : ct rest.testBit 8 = 0 := ct_none (fun g hg => by
          cases hb : rest.testBit g with
          | false => rfl
          | true => exact absurd ⟨g, hg, hb⟩ q)
        omega
    obtain ⟨g, hg8, hg⟩ := hex
    have hgF := h.2 g hg
    have h1 := mnv_le (p := rest.testBit) (v := fun g => dG b f g + TT b k (rm rest g) g) hgF hg
    have h2 := ih (rm rest g) g hg8 (vld_rm h g) (by have := rm_ct h.1 hg8 hg; omega)
    have h3 := (dG_eq hB hf hg8).2
    show mnv rest.testBit (fun g => dG b f g + TT b k (rm rest g) g) (cF b) ≤ _
    omega
theorem T_le {b : Rc} (hB : BI b) {rest f : Nat} (hf : f < 8) (h : vld b rest) : T_ b rest f ≤ 792 := by
  have h1 := TT_le hB _ rest f hf h rfl
  have h2 := ct_le rest.testBit 8
  unfold T_
  omega
/-- ahead of whom: nobody, or one -/
def pv (b : Rc) (o : Option Nat) (g : Nat) : Nat := match o with
  | none => 0
  | some f => dG b f g
def oi (o : Option Nat) : Int32 := match o with
  | none => -1
  | some f => nI f
def cv (b : Rc) (o : Option Nat) (rest g : Nat) : Nat := pv b o g + T_ b (rm rest g) g
def okO (o : Option Nat) : Prop := match o with
  | none => True
  | some f => f < 8
theorem cv_le {b : Rc} (hB : BI b) {o : Option Nat} (ho : okO o) {rest g : Nat} (hg : g < 8) (h : vld b rest) : cv b o rest g ≤ 891 := by
  have h1 := T_le hB hg (vld_rm h g)
  have h2 : pv b o g ≤ 99 := by
    cases o with
    | none => exact Nat.zero_le _
    | some f => exact (dG_eq hB ho hg).2
  unfold cv
  omega
/-- the class' table is right at a set -/
def LT (b : Rc) (L : Nat → Int32) (s : Nat) : Prop := ∀ f, f < 8 → s.testBit f = true → L (8 * s + f) = nI (T_ b (rm s f) f)
theorem cost_eq {b se : Rc} (hB : BI b) {o : Option Nat} (ho : okO o) {rest g : Nat} (h : vld b rest) (hL : LT b (ga se 0) rest) (hg : rest.testBit g = true) : fX7_cost (oi o) (nI rest) (nI g) se b = some (nI (cv b o rest g)) := by
  have hF : cF b ≤ 8 := hB.1.2
  have hg8 : g < 8 := by have := h.2 g hg; omega
  have h256 := h.1
  unfold fX7_cost fX7_cost_J24
  rw [if_neg (nI_m1 (by omega)), dlr.1, gd_pos (inbn (by omega) (by decide)), nI_clamp (by omega), hL g hg8 hg]
  unfold cv
  cases o with
  | none =>
    rw [if_pos (show oi none = -1 from rfl), show (0 : Int32) = nI 0 from rfl, nI_add]
    rfl
  | some f =>
    have hf : f < 8 := ho
    rw [if_neg (show ¬ oi (some f) = -1 from nI_m1 (by omega)), show oi (some f) = nI f from rfl, dislike_eq hf hg8, (dG_eq hB hf hg8).1]
    dsimp only [Option.bind]
    rw [nI_add, gd_pos (inbn (by omega) (by decide))]
    rfl
theorem cheap_eq {b se : Rc} (hB : BI b) {o : Option Nat} (ho : okO o) {rest : Nat} (h : vld b rest) (hL : LT b (ga se 0) rest) : fX7_cheapest (oi o) (nI rest) se b = some (oi (am rest.testBit (cv b o rest) (cF b))) := by
  have hF : cF b ≤ 8 := hB.1.2
  have h256 := h.1
  unfold fX7_cheapest
  have l : loopF (fX7_cheapest_L6 (oi o) (nI rest) se b) ((-1 : Int32), (0 : Int32)) = some (oi (am rest.testBit (cv b o rest) (cF b))) := by
    refine loopF_run (b := fX7_cheapest_L6 (oi o) (nI rest) se b) (fun i => (oi (am rest.testBit (cv b o rest) i), nI i)) (cF b) (fun i hi => ?_) ?_
    · unfold fX7_cheapest_L6
      dsimp only
      rw [hB.1.1, if_neg (nI_ge hi (by omega)), m_bit rest h256 i (by omega), nI_1, am_succ]
      cases hp : rest.testBit i with
      | false => rfl
      | true =>
        rw [if_neg (show ¬ b1 true = 0 by decide), if_pos rfl]
        cases ha : am rest.testBit (cv b o rest) i with
        | none => rfl
        | some g =>
          obtain ⟨a1, a2, -, -⟩ := am_some ha
          have c1 := cv_le hB ho (show i < 8 by omega) h
          have c2 := cv_le hB ho (show g < 8 by omega) h
          rw [if_neg (show ¬ oi (some g) = -1 from nI_m1 (by omega)), show oi (some g) = nI g from rfl, cost_eq hB ho h hL hp, cost_eq hB ho h hL a2]
          dsimp only [Option.bind]
          by_cases c : cv b o rest i < cv b o rest g
          · rw [if_neg (nI_ge c (by omega)), if_pos c]; rfl
          · rw [if_pos (nI_le (by omega) (by omega)), if_neg c]; rfl
    · unfold fX7_cheapest_L6
      dsimp only
      rw [hB.1.1, if_pos (nI_le (Nat.le_refl _) (by omega))]
  rw [l]; rfl
/-- the least cost behind one, as the class finds it -/
theorem cheap_cost {b se : Rc} (hB : BI b) {o : Option Nat} (ho : okO o) {rest : Nat} (h : vld b rest) (hL : LT b (ga se 0) rest) : fX7_cost (oi o) (nI rest) (oi (am rest.testBit (cv b o rest) (cF b))) se b = some (nI (if rest = 0 then 0 else mnv rest.testBit (cv b o rest) (cF b))) := by
  have hF : cF b ≤ 8 := hB.1.2
  cases ha : am rest.testBit (cv b o rest) (cF b) with
  | none =>
    have hn := am_none ha
    have e : rest = 0 := bits_eq h.1 (by decide) (fun k hk => by
      rw [Nat.zero_testBit]
      cases hb : rest.testBit k with
      | false => rfl
      | true => rw [hn k (h.2 k hb)] at hb; cases hb)
    rw [if_pos e]
    rfl
  | some g =>
    obtain ⟨a1, a2, -, -⟩ := am_some ha
    have c1 := cv_le hB ho (show g < 8 by omega) h
    rw [show oi (some g) = nI g from rfl, cost_eq hB ho h hL a2, if_neg (fun z => by rw [z, Nat.zero_testBit] at a2; cases a2), ← am_mnv ha (by omega)]
theorem vld_set {b : Rc} {s : Nat} (hF : cF b ≤ 8) (h : s < 2 ^ cF b) : vld b s := by
  have h8 : 2 ^ cF b ≤ 2 ^ 8 := Nat.pow_le_pow_right (by decide) hF
  refine ⟨by omega, fun g hg => ?_⟩
  rcases Nat.lt_or_ge g (cF b) with q | q
  · exact q
  · have h2 : 2 ^ cF b ≤ 2 ^ g := Nat.pow_le_pow_right (by decide) q
    rw [Nat.testBit_lt_two_pow (by omega)] at hg; cases hg
theorem seat_row {b S0 : Rc} (hB : BI b) {s : Nat} (hs1 : 1 ≤ s) (hs : s < 2 ^ cF b) {L : Nat → Int32} (hL : ∀ t, t < s → LT b L t) : ∃ L', loopF (fX7_seat_L19 b (nI s, sa S0 0 L)) ((0 : Int32), sa S0 0 L) = some (sa S0 0 L') ∧ ∀ t, t < s + 1 → LT b L' t := by
  have hF : cF b ≤ 8 := hB.1.2
  have hv := vld_set hF hs
  have h256 := hv.1
  obtain ⟨r, l1, L', rfl, h1, h2⟩ := loop_one (b := fX7_seat_L19 b (nI s, sa S0 0 L)) (fun i z => ∃ L', z = (nI i, sa S0 0 L') ∧ (∀ j, j < 8 * s → L' j = L j) ∧ (∀ f, f < i → s.testBit f = true → L' (8 * s + f) = nI (T_ b (rm s f) f))) (fun r => ∃ L', r = sa S0 0 L' ∧ (∀ j, j < 8 * s → L' j = L j) ∧ (∀ f, f < cF b → s.testBit f = true → L' (8 * s + f) = nI (T_ b (rm s f) f))) (cF b) (fun i z hi h => by
      obtain ⟨L', rfl, h1, h2⟩ := h
      left
      unfold fX7_seat_L19 lt_
      dsimp only
      rw [hB.1.1, if_neg (nI_ge hi (by omega)), m_bit s h256 i (by omega), nI_1]
      cases hp : s.testBit i with
      | false =>
        refine ⟨_, rfl, L', rfl, h1, fun f hf hb => ?_⟩
        rcases Nat.lt_or_ge f i with q | q
        · exact h2 f q hb
        · rw [show f = i by omega, hp] at hb; cases hb
      | true =>
        have hr : rm s i < s := rm_lt h256 hp
        have hvr := vld_rm hv i
        have hLr : LT b (ga (sa S0 0 L') 0) (rm s i) := fun f hf hb => by
          rw [ga_sa0, h1 _ (by omega)]
          exact hL (rm s i) hr f hf hb
        rw [if_neg (show ¬ b1 true = 0 by decide), nx_one i (by omega), nx_not s h256 (2 ^ i) (by have : 2 ^ i ≤ 2 ^ 7 := Nat.pow_le_pow_right (by decide) (by omega); omega)]
        have ei : s &&& (255 ^^^ 2 ^ i) = rm s i := rfl
        rw [ei, show nI i = oi (some i) from rfl, cheap_eq hB (show okO (some i) from (by omega : i < 8)) hvr hLr]
        dsimp only [Option.bind]
        rw [cheap_cost hB (show okO (some i) from (by omega : i < 8)) hvr hLr]
        dsimp only
        rw [show oi (some i) = nI i from rfl, dlr.1, gd_pos (inbn (by omega) (by decide)), nI_clamp (by omega), sa_sa, ga_sa0]
        have ev : (if rm s i = 0 then 0 else mnv (rm s i).testBit (cv b (some i) (rm s i)) (cF b)) = T_ b (rm s i) i := by
          by_cases c : rm s i = 0
          · rw [if_pos c, c, T_zero]
          · rw [if_neg c, T_step hF hvr c]; rfl
        rw [ev]
        refine ⟨_, rfl, _, rfl, fun j hj => ?_, fun f hf hb => ?_⟩
        · rw [upd_ne _ _ (by omega)]; exact h1 j hj
        · by_cases c : f = i
          · subst c; exact upd_eq _ _ _
          · rw [upd_ne _ _ (by omega)]; exact h2 f (by omega) hb) (fun z h => by
      obtain ⟨L', rfl, h1, h2⟩ := h
      unfold fX7_seat_L19
      dsimp only
      rw [hB.1.1, if_pos (nI_le (Nat.le_refl _) (by omega))]
      exact ⟨_, rfl, L', rfl, h1, h2⟩) (cF b) 0 ((0 : Int32), sa S0 0 L) (by omega) ⟨L, rfl, fun _ _ => rfl, fun f hf => absurd hf (Nat.not_lt_zero f)⟩
  refine ⟨L', l1, fun t ht f hf hb => ?_⟩
  rcases Nat.lt_or_ge t s with q | q
  · rw [h1 _ (by omega)]; exact hL t q f hf hb
  · have e : t = s := by omega
    subst e
    exact h2 f (hv.2 f hb) hb
theorem LT_0 (b : Rc) (L : Nat → Int32) : LT b L 0 := fun f _ hb => by rw [Nat.zero_testBit] at hb; cases hb
theorem seat_tab {b S0 : Rc} (hB : BI b) : ∃ L, loopF (fX7_seat_L11 b (nI (2 ^ cF b - 1))) ((1 : Int32), S0) = some (sa S0 0 L) ∧ ∀ t, t < 2 ^ cF b → LT b L t := by
  have hF : cF b ≤ 8 := hB.1.2
  have h8 : 2 ^ cF b ≤ 2 ^ 8 := Nat.pow_le_pow_right (by decide) hF
  have h1 : 0 < 2 ^ cF b := Nat.pow_pos (by decide)
  obtain ⟨r, l1, L, rfl, hL⟩ := loop_one (b := fX7_seat_L11 b (nI (2 ^ cF b - 1))) (fun i z => 1 ≤ i ∧ ∃ L, z = (nI i, sa S0 0 L) ∧ ∀ t, t < i → LT b L t) (fun r => ∃ L, r = sa S0 0 L ∧ ∀ t, t < 2 ^ cF b → LT b L t) (2 ^ cF b) (fun i z hi h => by
      obtain ⟨h1, L, rfl, hL⟩ := h
      left
      obtain ⟨L', r1, r2⟩ := seat_row (S0 := S0) hB h1 hi hL
      unfold fX7_seat_L11
      dsimp only
      rw [if_neg (n_nlt (by omega) (by omega)), r1, nI_1]
      exact ⟨_, rfl, by omega, L', rfl, r2⟩) (fun z h => by
      obtain ⟨-, L, rfl, hL⟩ := h
      unfold fX7_seat_L11
      dsimp only
      rw [if_pos (nI_lt (by omega) (by omega))]
      exact ⟨_, rfl, L, rfl, hL⟩) (2 ^ cF b - 1) 1 ((1 : Int32), S0) (by omega) ⟨Nat.le_refl _, ga S0 0, by rw [sa_id]; rfl, fun t ht => by rw [show t = 0 by omega]; exact LT_0 b _⟩
  exact ⟨L, l1, hL⟩
