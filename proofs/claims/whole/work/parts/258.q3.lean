/-! ===== (B) two loops side by side; what the bench says ===== -/
theorem loop_rel {σ τ ρ κ : Type} {b : σ → Option (σ ⊕ ρ)} {c : τ → Option (τ ⊕ κ)} (R : Nat → σ → τ → Prop) (Q : ρ → κ → Prop) (N : Nat) (hs : ∀ d s t, d < N → R d s t → (∃ s' t', b s = some (.inl s') ∧ c t = some (.inl t') ∧ R (d + 1) s' t') ∨ (∃ r k, b s = some (.inr r) ∧ c t = some (.inr k) ∧ Q r k)) (he : ∀ s t, R N s t → ∃ r k, b s = some (.inr r) ∧ c t = some (.inr k) ∧ Q r k) : ∀ n d s t, d + n = N → R d s t → ∃ r k, loopF b s = some r ∧ loopF c t = some k ∧ Q r k := by
  intro n
  induction n with
  | zero =>
    intro d s t hd h
    rw [Nat.add_zero] at hd
    subst hd
    obtain ⟨r, k, h1, h2, h3⟩ := he s t h
    exact ⟨r, k, loopF_stop h1, loopF_stop h2, h3⟩
  | succ n ih =>
    intro d s t hd h
    rcases hs d s t (by omega) h with ⟨s', t', h1, h2, h3⟩ | ⟨r, k, h1, h2, h3⟩
    · obtain ⟨r, k, q1, q2, q3⟩ := ih (d + 1) s' t' (by omega) h3
      exact ⟨r, k, loopF_step h1 q1, loopF_step h2 q2, q3⟩
    · exact ⟨r, k, loopF_stop h1, loopF_stop h2, h3⟩
theorem loop_one {σ ρ : Type} {b : σ → Option (σ ⊕ ρ)} (R : Nat → σ → Prop) (Q : ρ → Prop) (N : Nat) (hs : ∀ d s, d < N → R d s → (∃ s', b s = some (.inl s') ∧ R (d + 1) s') ∨ (∃ r, b s = some (.inr r) ∧ Q r)) (he : ∀ s, R N s → ∃ r, b s = some (.inr r) ∧ Q r) : ∀ n d s, d + n = N → R d s → ∃ r, loopF b s = some r ∧ Q r := by
  intro n
  induction n with
  | zero =>
    intro d s hd h
    rw [Nat.add_zero] at hd
    subst hd
    obtain ⟨r, h1, h3⟩ := he s h
    exact ⟨r, loopF_stop h1, h3⟩
  | succ n ih =>
    intro d s hd h
    rcases hs d s (by omega) h with ⟨s', h1, h3⟩ | ⟨r, h1, h3⟩
    · obtain ⟨r, q1, q3⟩ := ih (d + 1) s' (by omega) h3
      exact ⟨r, loopF_step h1 q1, q3⟩
    · exact ⟨r, loopF_stop h1, h3⟩
/-- both gather the same, from the a-th on -/
theorem loop_two {α ρ : Type} {b c : α × Int32 → Option ((α × Int32) ⊕ ρ)} (P : Nat → α → Prop) (Q : ρ → Prop) {a N : Nat} (hs : ∀ d x, a ≤ d → d < N → P d x → ∃ y, b (x, nI d) = some (.inl (y, nI (d + 1))) ∧ c (x, nI d) = some (.inl (y, nI (d + 1))) ∧ P (d + 1) y) (he : ∀ x, P N x → ∃ r, b (x, nI N) = some (.inr r) ∧ c (x, nI N) = some (.inr r) ∧ Q r) (x : α) (ha : a ≤ N) (h0 : P a x) : ∃ r, loopF b (x, nI a) = some r ∧ loopF c (x, nI a) = some r ∧ Q r := by
  obtain ⟨r, k, h1, h2, h3, h4⟩ := loop_rel (b := b) (c := c) (fun d s t => a ≤ d ∧ ∃ x, s = (x, nI d) ∧ t = (x, nI d) ∧ P d x) (fun r k => r = k ∧ Q r) N (fun d s t hd h => by
    obtain ⟨ha, x, rfl, rfl, hx⟩ := h
    obtain ⟨y, e1, e2, e3⟩ := hs d x ha hd hx
    exact Or.inl ⟨_, _, e1, e2, by omega, y, rfl, rfl, e3⟩) (fun s t h => by
    obtain ⟨-, x, rfl, rfl, hx⟩ := h
    obtain ⟨r, e1, e2, e3⟩ := he x hx
    exact ⟨r, r, e1, e2, rfl, e3⟩) (N - a) a (x, nI a) (x, nI a) (by omega) ⟨Nat.le_refl _, x, rfl, rfl, h0⟩
  subst h3
  exact ⟨r, h1, h2, h4⟩
theorem believersOf_eq {b : Rc} (hB : BI b) {d : Nat} (hd : d ≤ 62) : fX0_believersOf (nI d) b = some (nI (mk (fun f => wd b f d == some true) (cF b))) := by
  have hF : cF b ≤ 8 := hB.1.2
  unfold fX0_believersOf
  have key : ∀ i, itr (fun f (s : Int32) => if (wd b f d == some true) = true then s ||| nI (2 ^ f) else s) 0 i = nI (mk (fun f => wd b f d == some true) i) := by
    intro i
    induction i with
    | zero => rfl
    | succ i ih =>
      rw [itr_succ, mk_succ, ih]
      cases (wd b i d == some true)
      · rfl
      · simp only [if_true, nx_or]
  rw [loop_for (fun f (s : Int32) => if (wd b f d == some true) = true then s ||| nI (2 ^ f) else s) 0 (cF b) (r := nI (mk (fun f => wd b f d == some true) (cF b)))]
  · rfl
  · intro i hi
    unfold fX0_believersOf_L4 lt_
    dsimp only
    rw [hB.1.1, if_neg (nI_ge hi (by omega)), believes_eq hB hi hd, nI_1, nx_one i (by omega)]
    show (if b1 (wd b i d == some true) = 0 then _ else _) = _
    cases (wd b i d == some true) <;> rfl
  · unfold fX0_believersOf_L4
    dsimp only
    rw [hB.1.1, if_pos (nI_le (Nat.le_refl _) (by omega)), key]
/-- who tells of a day, who tells rain of it, what the bench says -/
def te (b : Rc) (d f : Nat) : Bool := (fe b f d).isSome
def ra (b : Rc) (d f : Nat) : Bool := wd b f d == some true
def say (b : Rc) (d : Nat) : Int32 := sayV (gi b 12) (wgt b) (te b d) (ra b d) (cF b)
theorem verdictOf_eq {b : Rc} (hB : BI b) {d : Nat} (hd : d ≤ 62) : fX0_verdictOf (nI d) b = some (say b d) := by
  unfold fX0_verdictOf
  rw [tellersOf_eq hB hd, believersOf_eq hB hd]
  dsimp only [Option.bind]
  rw [verdict_eq hB]
  rfl
theorem sayV_cong {law : Int32} {w : Nat → Int} {te te' ra ra' : Nat → Bool} {n : Nat} (h1 : ∀ f, f < n → te f = te' f) (h2 : ∀ f, f < n → ra f = ra' f) : sayV law w te ra n = sayV law w te' ra' n := by
  unfold sayV
  rw [ct_cong h1, ct_cong h2, ct_cong (p := fun f => te f && !ra f) (q := fun f => te' f && !ra' f) (fun k hk => by rw [h1 k hk, h2 k hk]), sm_cong h2 (fun _ _ => rfl), sm_cong (p := fun f => te f && !ra f) (q := fun f => te' f && !ra' f) (fun k hk => by rw [h1 k hk, h2 k hk]) (fun _ _ => rfl)]
/-- with words of the set t turned round -/
def raT (b : Rc) (t d f : Nat) : Bool := te b d f && (ra b d f ^^ t.testBit f)
def sayT (b : Rc) (t d : Nat) : Int32 := sayV (gi b 12) (wgt b) (te b d) (raT b t d) (cF b)
theorem sayT_eq {b M : Rc} {n t : Nat} (hR : RB b M 0 n) (h25 : gi M 25 = -1) (ht : t < 256) (hT : gi M 26 = nI t) {d : Nat} (hd : d ≤ 62) : fX11_sayOf (nI d) M = some (sayT b t d) := by
  have hF : cF b ≤ 8 := hR.1.1.2
  rw [sayOf_eq hR ht hT hd, h25]
  unfold sayT
  congr 1
  refine sayV_cong (fun f hf => ?_) (fun f hf => ?_)
  · unfold teN te tn wd
    rw [if_neg (nI_m1 (by omega))]
    cases fe b f d with
    | none => rfl
    | some k => show decide (¬ b1 _ = -1) = true; cases (tw b f k ^^ t.testBit f) <;> rfl
  · unfold raN raT te ra tn wd
    rw [if_neg (nI_m1 (by omega))]
    cases fe b f d with
    | none => rfl
    | some k =>
      show decide (b1 (tw b f k ^^ t.testBit f) = 1) = (true && ((some (tw b f k) == some true) ^^ t.testBit f))
      cases tw b f k <;> cases t.testBit f <;> rfl
theorem sayT_0 (b : Rc) (d : Nat) : sayT b 0 d = say b d := by
  unfold sayT say
  refine sayV_cong (fun _ _ => rfl) (fun f _ => ?_)
  unfold raT te ra wd
  cases fe b f d with
  | none => rfl
  | some k => simp
theorem say_eq {b M : Rc} {n : Nat} (hR : RB b M 0 n) (h25 : gi M 25 = -1) (h26 : gi M 26 = 0) {d : Nat} (hd : d ≤ 62) : fX11_sayOf (nI d) M = some (say b d) := by
  rw [sayT_eq hR h25 (t := 0) (by decide) h26 hd, sayT_0]
theorem say_3 (b : Rc) (d : Nat) : say b d = -1 ∨ say b d = 0 ∨ say b d = 1 := by
  unfold say sayV
  split
  · exact Or.inl rfl
  · generalize (if gi b 12 = 0 then _ else _ : Bool) = q
    cases q
    · exact Or.inr (Or.inl rfl)
    · exact Or.inr (Or.inr rfl)
theorem b_says : BT_says Rel := by
  intro sg M hR p1
  apply bt_q hR
  obtain ⟨hb, h25, h26⟩ := rel_b hR
  generalize sg 1 = b at *
  generalize sg 0 = kb at *
  have hD : cD b ≤ 60 := hb.1.2.1.2
  have hF : cF b ≤ 8 := hb.1.1.2
  unfold fX10_says fX11_says
  rcases asked_cases p1 with ⟨d, hd, rfl, e1, e2⟩ | ⟨e1, e2⟩
  · simp only [e1, e2, i00, i10, if_true]
    rw [verdictOf_eq hb.1 hd, say_eq hb h25 h26 hd]
    exact qq_any _
  · simp only [e1, e2, i00, i10, if_true]
    exact qq_ref 1
theorem rightOf_eq {b M : Rc} {n : Nat} (hb : RB b M 0 n) (h25 : gi M 25 = -1) (h26 : gi M 26 = 0) {f : Nat} (hf : f < cF b) : fX11_rightOf (nI f) M = some (nI (ct (fun d => wd b f d == some (fwB b f d)) (cD b))) := by
  have hD : cD b ≤ 60 := hb.1.2.1.2
  unfold fX11_rightOf
  rw [cnt_loop (fun d => wd b f d == some (fwB b f d)) (cD b) (fun d x hd => ?_) (fun x => ?_)]
  · rfl
  · unfold fX11_rightOf_L4
    dsimp only
    rw [many_eq hb, if_neg (n_ge hd hD), isRight_eq hb h25 h26 hf hd, nI_1]
    cases (wd b f d == some (fwB b f d)) <;> rfl
  · unfold fX11_rightOf_L4
    dsimp only
    rw [many_eq hb, if_pos (ple (by omega))]
theorem toldOf_eq {b M : Rc} {n : Nat} (hb : RB b M 0 n) (h25 : gi M 25 = -1) (h26 : gi M 26 = 0) {f : Nat} (hf : f < cF b) : fX11_toldOf (nI f) M = some (nI (ct (te b · f) (cD b))) := by
  have hD : cD b ≤ 60 := hb.1.2.1.2
  unfold fX11_toldOf
  rw [cnt_loop (te b · f) (cD b) (fun d x hd => ?_) (fun x => ?_)]
  · rfl
  · unfold fX11_toldOf_L4
    dsimp only
    rw [many_eq hb, if_neg (n_ge hd hD), tell_eq hb h25 h26 hf (by omega), nI_1]
    unfold te tv wd
    cases fe b f d with
    | none => rfl
    | some k => show (if b1 (tw b f k) = -1 then _ else _) = _; cases tw b f k <;> rfl
  · unfold fX11_toldOf_L4
    dsimp only
    rw [many_eq hb, if_pos (ple (by omega))]
theorem right_bc {b : Rc} (hB : BI b) {f : Nat} (hf : f < cF b) : ∃ x, fX0_rightDays (nI f) b = some x ∧ fJ13_bitCount_95d88 x = nI (ct (fun d => wd b f d == some (fwB b f d)) (cD b)) := by
  have hD : cD b ≤ 60 := hB.2.1.2
  obtain ⟨x, e1, e2⟩ := right_eq hB hf
  exact ⟨x, e1, bc_ct (by omega) e2⟩
theorem told_bc {b : Rc} (hB : BI b) {f : Nat} (hf : f < cF b) : ∃ x, fX0_toldDays (nI f) b = some x ∧ fJ13_bitCount_95d88 x = nI (ct (te b · f) (cD b)) := by
  have hD : cD b ≤ 60 := hB.2.1.2
  obtain ⟨x, e1, e2⟩ := told_eq hB hf
  exact ⟨x, e1, bc_ct (by omega) e2⟩
theorem b_right : BT_right Rel := by
  intro sg M hR p1
  apply bt_q hR
  obtain ⟨hb, h25, h26⟩ := rel_b hR
  generalize sg 1 = b at *
  generalize sg 0 = kb at *
  have hD : cD b ≤ 60 := hb.1.2.1.2
  have hF : cF b ≤ 8 := hb.1.1.2
  unfold fX10_right fX11_right
  rcases farmer_cases hb kb p1 with ⟨f, hf, rfl, e1, e2⟩ | ⟨e1, e2⟩
  · simp only [e1, e2, i00, i10, if_true]
    obtain ⟨x, x1, x2⟩ := right_bc hb.1 hf
    rw [x1, rightOf_eq hb h25 h26 hf]
    dsimp only [Option.bind]
    rw [x2]
    exact qq_ans _
  · simp only [e1, e2, i00, i10, if_true]
    exact qq_ref 1
theorem b_toldBy : BT_toldBy Rel := by
  intro sg M hR p1
  apply bt_q hR
  obtain ⟨hb, h25, h26⟩ := rel_b hR
  generalize sg 1 = b at *
  generalize sg 0 = kb at *
  have hD : cD b ≤ 60 := hb.1.2.1.2
  have hF : cF b ≤ 8 := hb.1.1.2
  unfold fX10_toldBy fX11_toldBy
  rcases farmer_cases hb kb p1 with ⟨f, hf, rfl, e1, e2⟩ | ⟨e1, e2⟩
  · simp only [e1, e2, i00, i10, if_true]
    obtain ⟨x, x1, x2⟩ := told_bc hb.1 hf
    rw [x1, toldOf_eq hb h25 h26 hf]
    dsimp only [Option.bind]
    rw [x2]
    exact qq_ans _
  · simp only [e1, e2, i00, i10, if_true]
    exact qq_ref 1
theorem b_believers : BT_believers Rel := by
  intro sg M hR p1
  apply bt_q hR
  obtain ⟨hb, h25, h26⟩ := rel_b hR
  generalize sg 1 = b at *
  generalize sg 0 = kb at *
  have hD : cD b ≤ 60 := hb.1.2.1.2
  have hF : cF b ≤ 8 := hb.1.1.2
  unfold fX10_believers fX11_believers
  rcases asked_cases p1 with ⟨d, hd, rfl, e1, e2⟩ | ⟨e1, e2⟩
  · simp only [e1, e2, i00, i10, if_true]
    have loop : loopF (fX11_believers_L17 (nI d) M) ((0 : Int32), (0 : Int32)) = some (nI (mk (fun f => wd b f d == some true) (cF b))) := by
      refine loopF_run (fun i => (nI (mk (fun f => wd b f d == some true) i), nI i)) (cF b) (fun i hi => ?_) ?_
      · unfold fX11_believers_L17
        dsimp only
        rw [frms_eq hb, if_neg (nI_ge hi (by omega)), tell_eq hb h25 h26 hi hd, nI_1, nx_one i (by omega), mk_succ]
        unfold tv
        cases wd b i d with
        | none => exact congrArg (fun z => some (Sum.inl (z, _))) (nx_or _ 0 |>.trans (by rw [Nat.or_zero]; rfl))
        | some w =>
          cases w
          · exact congrArg (fun z => some (Sum.inl (z, _))) (nx_or _ 0 |>.trans (by rw [Nat.or_zero]; rfl))
          · exact congrArg (fun z => some (Sum.inl (z, _))) (nx_or _ _)
      · unfold fX11_believers_L17
        dsimp only
        rw [frms_eq hb, if_pos (nI_le (Nat.le_refl _) (by omega))]
    rw [believersOf_eq hb.1 hd, loop]
    exact qq_ans _
  · simp only [e1, e2, i00, i10, if_true]
    exact qq_ref 1
theorem span_cases (x y : Int32) : (∃ d e, d ≤ e ∧ e ≤ 62 ∧ x = nI d ∧ y = nI e ∧ fX10_noSpan x y = 0 ∧ fX11_isSpan x y = 1) ∨ (fX10_noSpan x y = 1 ∧ fX11_isSpan x y = 0) := by
  unfold fX10_noSpan fX11_isSpan
  rcases asked_cases x with ⟨d, hd, rfl, e1, e2⟩ | ⟨e1, e2⟩
  · rcases asked_cases y with ⟨e, he, rfl, e3, e4⟩ | ⟨e3, e4⟩
    · simp only [e1, e2, e3, e4, i00, i10, if_true]
      rcases Nat.lt_or_ge e d with q | q
      · right
        rw [if_neg (nI_ge q (by omega)), if_pos (by rw [i_lt, nI_toInt (by omega), nI_toInt (by omega)]; omega)]
        exact ⟨rfl, rfl⟩
      · left
        refine ⟨d, e, q, he, rfl, rfl, if_pos (nI_le q (by omega)), if_neg (by rw [i_lt, nI_toInt (by omega), nI_toInt (by omega)]; omega)⟩
    · simp only [e1, e2, e3, e4, i00, i10, if_true]
      exact Or.inr ⟨trivial, trivial⟩
  · simp only [e1, e2, i00, i10, if_true]
    exact Or.inr ⟨trivial, trivial⟩
theorem n_lt {a c : Nat} (h : a < c) (hc : c < 256) : nI a < nI c := by rw [i_lt, nI_toInt (by omega), nI_toInt (by omega)]; omega
theorem n_nlt {a c : Nat} (h : c ≤ a) (hc : a < 256) : ¬ nI a < nI c := by rw [i_lt, nI_toInt (by omega), nI_toInt (by omega)]; omega
theorem b_span : BT_span Rel := by
  intro sg M hR p1 p2
  apply bt_q hR
  obtain ⟨hb, h25, h26⟩ := rel_b hR
  generalize sg 1 = b at *
  generalize sg 0 = kb at *
  have hD : cD b ≤ 60 := hb.1.2.1.2
  have hF : cF b ≤ 8 := hb.1.1.2
  unfold fX10_span fX11_span
  rcases span_cases p1 p2 with ⟨d, e, hde, he, rfl, rfl, e1, e2⟩ | ⟨e1, e2⟩
  · simp only [e1, e2, i00, i10, if_true]
    obtain ⟨r, l1, l2, -⟩ := loop_two (b := fX10_span_L19 (nI e) b) (c := fX11_span_L19 (nI e) M) (fun _ _ => True) (fun _ => True) (a := d) (N := e + 1) (fun k x _ hk _ => by
        unfold fX10_span_L19 fX11_span_L19
        dsimp only
        rw [if_neg (n_nlt (by omega) (by omega)), verdictOf_eq hb.1 (by omega), say_eq hb h25 h26 (by omega), if_neg (n_nlt (by omega) (by omega)), nI_1]
        dsimp only [Option.bind]
        by_cases q : say b k = 1
        · rw [if_pos q, if_pos q]; exact ⟨_, rfl, rfl, trivial⟩
        · rw [if_neg q, if_neg q]; exact ⟨_, rfl, by unfold lt_; rw [Int32.add_zero], trivial⟩) (fun x _ => by
        unfold fX10_span_L19 fX11_span_L19
        dsimp only
        rw [if_pos (n_lt (by omega) (by omega)), if_pos (n_lt (by omega) (by omega))]
        exact ⟨_, rfl, rfl, trivial⟩) 0 (by omega) trivial
    rw [l1, l2]
    exact qq_ans _
  · simp only [e1, e2, i00, i10, if_true]
    exact qq_ref 1
theorem b_agrees : BT_agrees Rel := by
  intro sg M hR p1
  apply bt_q hR
  obtain ⟨hb, h25, h26⟩ := rel_b hR
  generalize sg 1 = b at *
  generalize sg 0 = kb at *
  have hD : cD b ≤ 60 := hb.1.2.1.2
  have hF : cF b ≤ 8 := hb.1.1.2
  unfold fX10_agrees fX11_agrees
  rcases farmer_cases hb kb p1 with ⟨f, hf, rfl, e1, e2⟩ | ⟨e1, e2⟩
  · simp only [e1, e2, i00, i10, if_true]
    obtain ⟨r, l1, l2, -⟩ := loop_two (b := fX10_agrees_L18 (nI f) b) (c := fX11_agrees_L18 (nI f) M) (fun _ _ => True) (fun _ => True) (a := 0) (N := cD b) (fun k x _ hk _ => by
        unfold fX10_agrees_L18 fX11_agrees_L18
        dsimp only
        rw [hb.1.2.1.1, many_eq hb, if_neg (n_ge hk hD), verdictOf_eq hb.1 (by omega), say_eq hb h25 h26 (by omega), nI_1, hasWord_eq hb.1 hf (by omega), believes_eq hb.1 hf (by omega), tell_eq hb h25 h26 hf (by omega)]
        unfold tv wd
        cases fe b f k with
        | none => exact ⟨_, rfl, by rw [if_neg (n_ge hk hD)]; exact congrArg (fun z => some (Sum.inl (z, nI (k + 1)))) (Int32.add_zero x), trivial⟩
        | some j =>
          rw [if_neg (n_ge hk hD)]
          show ∃ y, (if fX10_bit (b1 (some (tw b f j) == some true)) = say b k then some (Sum.inl (x + 1, nI (k + 1))) else some (Sum.inl (x, nI (k + 1)))) = _ ∧ (if b1 (tw b f j) = -1 then some (Sum.inl (x + 0, nI (k + 1))) else if b1 (tw b f j) = say b k then some (Sum.inl (x + 1, nI (k + 1))) else some (Sum.inl (x + 0, nI (k + 1)))) = _ ∧ True
          have z : fX10_bit (b1 (some (tw b f j) == some true)) = b1 (tw b f j) := by cases tw b f j <;> rfl
          have z2 : ¬ b1 (tw b f j) = -1 := by cases tw b f j <;> decide
          rw [z, if_neg z2, Int32.add_zero]
          split
          · exact ⟨_, rfl, rfl, trivial⟩
          · exact ⟨_, rfl, rfl, trivial⟩) (fun x _ => by
        unfold fX10_agrees_L18 fX11_agrees_L18
        dsimp only
        rw [hb.1.2.1.1, many_eq hb, if_pos (ple (by omega)), if_pos (ple (by omega))]
        exact ⟨_, rfl, rfl, trivial⟩) 0 (by omega) trivial
    rw [show ((0 : Int32), (0 : Int32)) = ((0 : Int32), nI 0) from rfl, l1, l2]
    exact qq_ans _
  · simp only [e1, e2, i00, i10, if_true]
    exact qq_ref 1
