/-! ===== (B) trays ===== -/
theorem sb_sb (s : Rc) (k : Nat) (v w : Nat → Int64) : sb (sb s k v) k w = sb s k w := by
  unfold sb
  rw [va_up_up]
theorem sb_id (s : Rc) (k : Nat) {v : Nat → Int64} (h : gb s k = v) : sb s k v = s := by
  unfold sb
  rw [va_up_id s.2.2.2 k h]
theorem gb_sb0 (s : Rc) (k : Nat) (v : Nat → Int64) : gb (sb s k v) k = v := by rw [gb_sb, if_pos rfl]
theorem rel_ty {sg : Nat → Rc} {M : Rc} (h : Rel sg M) (x y : Nat → Int32) (z : Nat → Int64) (ty : Rc) (ht : RT ty (sb (sa (sa M 5 x) 6 y) 7 z)) (st : Int32) : Rel (va_up (va_up sg 0 (si (sg 0) 16 st)) 14 ty) (si (sb (sa (sa M 5 x) 6 y) 7 z) 2 st) := by
  obtain ⟨h1, h2, h3, h4, h5, h6, h7, h8, h9, h10⟩ := h
  exact ⟨st_eq h1 st, h2, h3, h4, ht, h6, h7, h8, h9, h10⟩
theorem rel_ty1 {sg : Nat → Rc} {M : Rc} (h : Rel sg M) (z : Nat → Int64) (ty : Rc) (ht : RT ty (sb M 7 z)) (st : Int32) : Rel (va_up (va_up sg 0 (si (sg 0) 16 st)) 14 ty) (si (sb M 7 z) 2 st) := by
  have r := rel_ty h (ga M 5) (ga M 6) z ty
  rw [sa_id M 5, sa_id M 6] at r
  exact r ht st
theorem rel_ty0 {sg : Nat → Rc} {M : Rc} (h : Rel sg M) (st : Int32) : Rel (va_up (va_up sg 0 (si (sg 0) 16 st)) 14 (sg 14)) (si M 2 st) := by
  obtain ⟨h1, h2, h3, h4, h5, h6, h7, h8, h9, h10⟩ := h
  exact ⟨st_eq h1 st, h2, h3, h4, h5, h6, h7, h8, h9, h10⟩
theorem b_read : BT_read Rel := by
  intro sg M hR p1 p2
  obtain ⟨r, e1, e2, h4, h0⟩ := place_eq (kb := sg 0) hR.2.2.2.2.1 p1 p2
  have hT := hR.2.2.2.2.1
  unfold fX10_read fX11_read lt_
  rw [e1, e2]
  dsimp only [Option.bind]
  rw [show gi (si M 2 r) 2 = r from rfl]
  rcases h4 with rfl | h4
  · obtain ⟨t, q, ht, hq, rfl, rfl⟩ := h0 rfl
    unfold fX9_at
    rw [if_pos rfl, if_pos (by decide), (tr_in ht hq).1, (tr_in ht hq).2, gd_pos (inbn (by omega) (by decide)), gd_pos (inbn (by omega) (by decide)), nI_clamp (by omega)]
    refine ⟨_, _, rfl, rfl, ?_, rel_st hR 0⟩
    show gb (sg 14) 0 _ = gb M 7 _
    rw [hT.2.2.1]
  · have n0 : ¬ r = 0 := by rcases h4 with rfl | rfl | rfl <;> decide
    have n1 : ¬ r ≤ 0 := by rcases h4 with rfl | rfl | rfl <;> decide
    rw [if_neg n0, if_neg n1]
    exact ⟨_, _, rfl, rfl, rfl, rel_st hR r⟩
theorem cut_eq (s : Int32) (v : Int64) : fX9_cut s v = fX11_cut v s := rfl
theorem b_write : BT_write Rel := by
  intro sg M hR p1 p2 p3
  obtain ⟨r, e1, e2, h4, h0⟩ := place_eq (kb := sg 0) hR.2.2.2.2.1 p1 p2
  have hT := hR.2.2.2.2.1
  unfold fX10_write fX11_write lt_
  rw [e1, e2]
  dsimp only [Option.bind]
  rcases h4 with rfl | h4
  · obtain ⟨t, q, ht, hq, rfl, rfl⟩ := h0 rfl
    unfold fX9_put lt_
    rw [if_pos rfl, if_pos rfl, (tr_in ht hq).1, (tr_in ht hq).2, gd_pos (inbn ht (by decide)), gd_pos (inbn (by omega) (by decide)), gd_pos (inbn ht (by decide)), gd_pos (inbn (by omega) (by decide)), nI_clamp (by omega), nI_clamp (by omega)]
    refine ⟨_, _, rfl, rfl, rfl, rel_ty1 hR _ _ ?_ 0⟩
    obtain ⟨t1, t2, t3, t4⟩ := hT
    refine ⟨t1, t2, ?_, t4⟩
    show vp_updL (gb (sg 14) 0) _ (fX9_cut (ga (sg 14) 1 t) p3) = vp_updL (gb M 7) _ (fX11_cut p3 (ga M 5 t))
    rw [t3, t1, cut_eq]
  · have n0 : ¬ r = 0 := by rcases h4 with rfl | rfl | rfl <;> decide
    rw [if_neg n0, if_neg n0, mis_ne n0]
    exact ⟨_, _, rfl, rfl, rfl, rel_ty0 hR r⟩
theorem b_tray : BT_tray Rel := by
  intro sg M hR p1 p2 p3
  have hT := hR.2.2.2.2.1
  unfold fX10_tray fX11_tray
  have no : ∃ (r1 : Int32 × Rc × Rc) (r2 : Int32 × Rc), lt_ (fX10_deny 1 (sg 0)) (fun r => some (r.1, r.2, sg 14)) = some r1 ∧ lt_ (fX11_is 1 M) (fun r => some (r.1, r.2)) = some r2 ∧ r1.1 = r2.1 ∧ Rel (va_up (va_up sg 0 r1.2.1) 14 r1.2.2) r2.2 := by
    rw [mis_ne (by decide)]
    exact ⟨_, _, rfl, rfl, rfl, rel_ty0 hR 1⟩
  rcases noTray_cases p1 with ⟨t, ht, rfl, e1, e2⟩ | ⟨e1, e2⟩
  · simp only [e1, e2, i00, i10, if_true]
    have h3 : (3 : Int32).toInt = 3 := rfl
    have h60 : (60 : Int32).toInt = 60 := rfl
    unfold fX10_outside
    by_cases c1 : p2 < 0
    · simp only [if_pos c1, i00, i10, if_true]
      exact no
    · simp only [if_neg c1]
      by_cases c2 : (3 : Int32) < p2
      · have c2' : ¬ p2 ≤ 3 := fun z => by rw [i_le] at z; rw [i_lt] at c2; omega
        simp only [if_pos c2, if_neg c2', i00, i10, if_true]
        exact no
      · have c2' : p2 ≤ 3 := by rw [i_lt] at c2; rw [i_le]; omega
        simp only [if_neg c2, if_pos c2', i00, i10, if_true]
        by_cases c3 : p3 < 0
        · simp only [if_pos c3, i00, i10, if_true]
          exact no
        · simp only [if_neg c3]
          by_cases c4 : p3 ≤ 60
          · simp only [if_pos c4, i00, i10, if_true]
            rw [i_lt, i_0] at c3
            rw [i_le, h60] at c4
            obtain ⟨N, hN, rfl⟩ : ∃ N : Nat, N ≤ 60 ∧ p3 = nI N := ⟨p3.toInt.toNat, by omega, i_nat (by omega)⟩
            unfold fX9_lay lt_
            rw [gd_pos (inbn ht (by decide)), gd_pos (inbn ht (by decide)), nI_clamp (by omega)]
            dsimp only
            obtain ⟨t1, t2, t3, t4⟩ := hT
            generalize hS : sa (sa (sg 14) 1 (upd (ga (sg 14) 1) t p2)) 2 (upd (ga (sa (sg 14) 1 (upd (ga (sg 14) 1) t p2)) 2) t (nI N)) = S0
            generalize hU : sa (sa M 5 (upd (ga M 5) t p2)) 6 (upd (ga (sa M 5 (upd (ga M 5) t p2)) 6) t (nI N)) = T0
            have g0 : gb S0 0 = gb T0 7 := by rw [← hS, ← hU]; exact t3
            obtain ⟨r, k, l1, l2, z, rfl, rfl⟩ := loop_rel (b := fX9_lay_L17 (nI t) (nI N)) (c := fX11_tray_L49 (nI t) (nI N)) (fun i s u => ∃ z, s = (nI i, sb S0 0 z) ∧ u = (nI i, sb T0 7 z)) (fun r k => ∃ z, r = sb S0 0 z ∧ k = sb T0 7 z) N (fun i s u hi h => by
                obtain ⟨z, rfl, rfl⟩ := h
                left
                unfold fX9_lay_L17 fX11_tray_L49 lt_
                dsimp only
                rw [if_neg (nI_ge hi (by omega)), if_neg (nI_ge hi (by omega)), (tr_in ht (show i < 60 by omega)).1, (tr_in ht (show i < 60 by omega)).2, gd_pos (inbn (by omega) (by decide)), gd_pos (inbn (by omega) (by decide)), nI_clamp (by omega), nI_1, sb_sb, sb_sb, gb_sb0, gb_sb0]
                exact ⟨_, _, rfl, rfl, _, rfl, rfl⟩) (fun s u h => by
                obtain ⟨z, rfl, rfl⟩ := h
                unfold fX9_lay_L17 fX11_tray_L49
                dsimp only
                rw [if_pos (nI_le (Nat.le_refl _) (by omega)), if_pos (nI_le (Nat.le_refl _) (by omega))]
                exact ⟨_, _, rfl, rfl, z, rfl, rfl⟩) N 0 ((0 : Int32), S0) ((0 : Int32), T0) (by omega) ⟨gb S0 0, by rw [sb_id S0 0 rfl]; rfl, by rw [sb_id T0 7 g0.symm]; rfl⟩
            rw [l1, l2]
            refine ⟨_, _, rfl, rfl, rfl, ?_⟩
            show Rel (va_up (va_up sg 0 (si (sg 0) 16 0)) 14 (sb S0 0 z)) (si (sb T0 7 z) 2 0)
            rw [← hU]
            refine rel_ty hR _ _ z _ ?_ 0
            rw [← hS]
            refine ⟨?_, ?_, rfl, ?_⟩
            · show upd (ga (sg 14) 1) t p2 = upd (ga M 5) t p2
              rw [t1]
            · show upd (ga (sg 14) 2) t (nI N) = upd (ga M 6) t (nI N)
              rw [t2]
            · intro k hk
              show -1 ≤ (upd (ga (sg 14) 2) t (nI N) k).toInt ∧ (upd (ga (sg 14) 2) t (nI N) k).toInt ≤ 60
              unfold upd
              split
              · rw [nI_toInt (by omega)]; omega
              · exact t4 k hk
          · simp only [if_neg c4, i00, i10, if_true]
            exact no
  · simp only [e1, e2, i00, i10, if_true]
    exact no
theorem cpy_fwd {A B n : Nat} {g : Nat → Int64} (h : ∀ i, i < n → ¬ (B ≤ A + i ∧ A + i < B + i)) {i : Nat} (hi : i < n) : vp_updL (va_cpy g g A B i) (B + i) (va_cpy g g A B i (A + i)) = va_cpy g g A B (i + 1) := by
  funext j
  have hc : va_cpy g g A B i (A + i) = g (A + i) := by unfold va_cpy; rw [if_neg (h i hi)]
  rw [hc]
  unfold vp_updL va_cpy
  by_cases c : j = B + i
  · subst c
    rw [if_pos rfl, if_pos (by omega)]
    congr 1
    omega
  · rw [if_neg c]
    by_cases c2 : B ≤ j ∧ j < B + i
    · rw [if_pos c2, if_pos (by omega)]
    · rw [if_neg c2, if_neg (by omega)]
def cpb_ (g : Nat → Int64) (A B n i : Nat) : Nat → Int64 := fun j => if B + (n - i) ≤ j ∧ j < B + n then g (A + (j - B)) else g j
theorem cpy_bwd {A B n : Nat} {g : Nat → Int64} (h : ∀ k, k < n → ¬ (B + k + 1 ≤ A + k ∧ A + k < B + n)) {i : Nat} (hi : i < n) : vp_updL (cpb_ g A B n i) (B + (n - 1 - i)) (cpb_ g A B n i (A + (n - 1 - i))) = cpb_ g A B n (i + 1) := by
  funext j
  have hc : cpb_ g A B n i (A + (n - 1 - i)) = g (A + (n - 1 - i)) := by unfold cpb_; rw [if_neg (fun z => h (n - 1 - i) (by omega) (by omega))]
  rw [hc]
  unfold vp_updL cpb_
  by_cases c : j = B + (n - 1 - i)
  · subst c
    rw [if_pos rfl, if_pos (by omega)]
    congr 1
    omega
  · rw [if_neg c]
    by_cases c2 : B + (n - i) ≤ j ∧ j < B + n
    · rw [if_pos c2, if_pos (by omega)]
    · rw [if_neg c2, if_neg (by omega)]
theorem cpb_end (g : Nat → Int64) (A B n : Nat) : cpb_ g A B n n = va_cpy g g A B n := by
  funext j
  unfold cpb_ va_cpy
  rw [Nat.sub_self, Nat.add_zero]
theorem cpb_0 (g : Nat → Int64) (A B n : Nat) : cpb_ g A B n 0 = g := by
  funext j
  unfold cpb_
  rw [Nat.sub_zero, if_neg (by omega)]
theorem cpy_0 (g : Nat → Int64) (A B : Nat) : va_cpy g g A B 0 = g := by
  funext j
  unfold va_cpy
  rw [if_neg (by omega)]
theorem pour_loop {T : Rc} {f p t a n : Nat} (hf : f < 4) (ht : t < 4) (hp : p + n ≤ 60) (ha : a + n ≤ 60) : loopF (fX11_pour_L118 (nI f) (nI p) (nI t) (nI a) (nI n)) ((0 : Int32), T) = some (sb T 7 (va_cpy (gb T 7) (gb T 7) (60 * f + p) (60 * t + a) n)) := by
  have ix : ∀ u q k : Nat, (((60 : Int32) * nI u) + nI q) + nI k = nI (60 * u + q + k) := fun u q k => by rw [show (60 : Int32) = nI 60 from rfl, nI_mul, nI_add, nI_add]
  by_cases c : a ≤ p
  · have r := loopF_run (b := fX11_pour_L118 (nI f) (nI p) (nI t) (nI a) (nI n)) (fun i => (nI i, sb T 7 (va_cpy (gb T 7) (gb T 7) (60 * f + p) (60 * t + a) i))) n (r := sb T 7 (va_cpy (gb T 7) (gb T 7) (60 * f + p) (60 * t + a) n)) (fun i hi => by
      unfold fX11_pour_L118 fX11_pour_J143 lt_
      dsimp only
      rw [if_neg (nI_ge hi (by omega)), if_pos (nI_le c (by omega)), ix, ix, gd_pos (inbn (by omega) (by decide)), gd_pos (inbn (by omega) (by decide)), nI_clamp (by omega), nI_clamp (by omega), nI_1, sb_sb, gb_sb0, cpy_fwd (n := n) (fun k hk => by rcases Nat.lt_trichotomy f t with z | z | z <;> omega) hi]) (by
      unfold fX11_pour_L118
      dsimp only
      rw [if_pos (nI_le (Nat.le_refl _) (by omega))])
    rw [cpy_0, sb_id T 7 rfl] at r
    exact r
  · have r := loopF_run (b := fX11_pour_L118 (nI f) (nI p) (nI t) (nI a) (nI n)) (fun i => (nI i, sb T 7 (cpb_ (gb T 7) (60 * f + p) (60 * t + a) n i))) n (r := sb T 7 (va_cpy (gb T 7) (gb T 7) (60 * f + p) (60 * t + a) n)) (fun i hi => by
      have e : (nI n - 1) - nI i = nI (n - 1 - i) := by
        rw [show n = (n - 1) + 1 by omega, nI_pred]
        apply i_ext
        have e1 : (nI (n - 1)).toInt = ((n - 1 : Nat) : Int) := nI_toInt (by omega)
        have e2 : (nI i).toInt = (i : Int) := nI_toInt (by omega)
        rw [i_sub (by omega) (by omega), nI_toInt (by omega), nI_toInt (by omega), nI_toInt (by omega)]
        omega
      unfold fX11_pour_L118 fX11_pour_J143 lt_
      dsimp only
      rw [if_neg (nI_ge hi (by omega)), if_neg (nI_ge (by omega) (by omega)), e, ix, ix, gd_pos (inbn (by omega) (by decide)), gd_pos (inbn (by omega) (by decide)), nI_clamp (by omega), nI_clamp (by omega), nI_1, sb_sb, gb_sb0, cpy_bwd (fun k hk => by rcases Nat.lt_trichotomy f t with z | z | z <;> omega) hi]) (by
      unfold fX11_pour_L118
      dsimp only
      rw [if_pos (nI_le (Nat.le_refl _) (by omega)), cpb_end])
    rw [cpb_0, sb_id T 7 rfl] at r
    exact r
theorem places_eq {ty : Rc} {t : Nat} (ht : t < 4) (s1 : -1 ≤ (ga ty 2 t).toInt) (s2 : (ga ty 2 t).toInt ≤ 60) {p n : Int32} (hp : ¬ p < 0) (hn : (0 : Int32) ≤ n) : fX9_hasPlaces (nI t) p n ty = some (if (ga ty 2 t) - p < n then 0 else 1) ∧ (¬ (ga ty 2 t) - p < n → p.toInt + n.toInt ≤ (ga ty 2 t).toInt) := by
  rw [i_lt, i_0] at hp
  rw [i_le, i_0] at hn
  have b1 := Int32.toInt_lt p
  have e : (ga ty 2 t - p).toInt = (ga ty 2 t).toInt - p.toInt := i_sub (by omega) (by omega)
  unfold fX9_hasPlaces
  rw [if_neg (by rw [i_lt, i_0]; omega), gd_pos (inbn ht (by decide)), nI_clamp (by omega)]
  refine ⟨?_, fun z => ?_⟩
  · by_cases c : ga ty 2 t < p
    · rw [if_pos c, if_pos (by rw [i_lt, e]; rw [i_lt] at c; omega)]
    · rw [if_neg c]
      split <;> rfl
  · rw [i_lt, e] at z
    omega
theorem move_eq {ty : Rc} {f p t a n : Nat} (hf : f < 4) (ht : t < 4) (hp : p + n ≤ 60) (ha : a + n ≤ 60) : fX9_move (nI f) (nI p) (nI t) (nI a) (nI n) ty = some (sb ty 0 (va_cpy (gb ty 0) (gb ty 0) (60 * f + p) (60 * t + a) n)) := by
  have ix : ∀ u q : Nat, (nI u * (60 : Int32)) + nI q = nI (60 * u + q) := fun u q => by rw [show (60 : Int32) = nI 60 from rfl, nI_mul, nI_add, Nat.mul_comm]
  have cb : ∀ A : Nat, A + n ≤ 240 → cpb (nI A) (nI n) 240 = true := fun A hA => by
    unfold cpb
    rw [nI_toInt (by omega), nI_toInt (by omega)]
    exact decide_eq_true (by omega)
  unfold fX9_move lt_
  rw [ix, ix, gd_pos (cb _ (by omega)), gd_pos (cb _ (by omega)), nI_clamp (by omega), nI_clamp (by omega), nI_clamp (by omega)]
theorem pour_ok {sg : Nat → Rc} {M : Rc} (hR : Rel sg M) {f p t a n : Nat} (hf : f < 4) (ht : t < 4) (hp : p + n ≤ 60) (ha : a + n ≤ 60) : ∃ (r1 : Int32 × Rc × Rc) (r2 : Int32 × Rc), ((fX9_move (nI f) (nI p) (nI t) (nI a) (nI n) (sg 14)).bind (fun r35 => lt_ (fX10_allow (sg 0)) (fun r36 => some (r36.1, r36.2, r35)))) = some r1 ∧ ((loopF (fX11_pour_L118 (nI f) (nI p) (nI t) (nI a) (nI n)) ((0 : Int32), M)).bind (fun o118 => lt_ (fX11_is (0 : Int32) o118) (fun r32 => some (r32.1, r32.2)))) = some r2 ∧ r1.1 = r2.1 ∧ Rel (va_up (va_up sg 0 r1.2.1) 14 r1.2.2) r2.2 := by
  obtain ⟨t1, t2, t3, t4⟩ := hR.2.2.2.2.1
  rw [move_eq hf ht hp ha, pour_loop hf ht hp ha]
  refine ⟨_, _, rfl, rfl, rfl, rel_ty1 hR _ _ ?_ 0⟩
  refine ⟨t1, t2, ?_, t4⟩
  show va_cpy (gb (sg 14) 0) (gb (sg 14) 0) _ _ _ = va_cpy (gb M 7) (gb M 7) _ _ _
  rw [t3]
theorem b_pour : BT_pour Rel := by
  intro sg M hR p1 p2 p3 p4 p5
  have hT := hR.2.2.2.2.1
  unfold fX10_pour fX11_pour
  have no : ∀ v : Int32, ¬ v = 0 → ∃ (r1 : Int32 × Rc × Rc) (r2 : Int32 × Rc), lt_ (fX10_deny v (sg 0)) (fun r => some (r.1, r.2, sg 14)) = some r1 ∧ lt_ (fX11_is v M) (fun r => some (r.1, r.2)) = some r2 ∧ r1.1 = r2.1 ∧ Rel (va_up (va_up sg 0 r1.2.1) 14 r1.2.2) r2.2 := by
    intro v hv
    rw [mis_ne hv]
    exact ⟨_, _, rfl, rfl, rfl, rel_ty0 hR v⟩
  obtain ⟨t1, t2, t3, t4⟩ := hT
  rcases noTray_cases p1 with ⟨f, hf, rfl, e1, e2⟩ | ⟨e1, e2⟩
  · rcases noTray_cases p3 with ⟨t, ht, rfl, e3, e4⟩ | ⟨e3, e4⟩
    · rw [e1, e3, i00, i00, e2, e4, i10, i10]
      by_cases c1 : p2 < 0
      · rw [if_pos c1, if_pos c1]; exact no 1 (by decide)
      · rw [if_neg c1, if_neg c1]
        by_cases c2 : p4 < 0
        · rw [if_pos c2, if_pos c2]; exact no 1 (by decide)
        · rw [if_neg c2, if_neg c2]
          by_cases c3 : (0 : Int32) ≤ p5
          · rw [if_pos c3, if_pos c3]
            unfold fX9_isMissing
            simp only [gd_pos (inbn (k := f) (n := 4) hf (by decide)), gd_pos (inbn (k := t) (n := 4) ht (by decide)), nI_clamp (show f < 2 ^ 31 by omega), nI_clamp (show t < 2 ^ 31 by omega), ← t1, ← t2]
            by_cases c4 : ga (sg 14) 2 f = -1
            · rw [if_pos c4, if_pos c4]; exact no 2 (by decide)
            · rw [if_neg c4, if_neg c4]
              dsimp only [Option.bind]
              rw [if_pos rfl]
              by_cases c5 : ga (sg 14) 2 t = -1
              · rw [if_pos c5, if_pos c5]; exact no 2 (by decide)
              · rw [if_neg c5, if_neg c5]
                dsimp only
                rw [if_pos rfl]
                by_cases c6 : ga (sg 14) 1 f = ga (sg 14) 1 t
                · rw [if_pos c6, if_pos c6]
                  obtain ⟨q1, q2⟩ := places_eq hf (t4 f hf).1 (t4 f hf).2 c1 c3
                  obtain ⟨q3, q4⟩ := places_eq ht (t4 t ht).1 (t4 t ht).2 c2 c3
                  rw [q1, q3]
                  dsimp only
                  by_cases c7 : ga (sg 14) 2 f - p2 < p5
                  · rw [if_pos c7, if_pos rfl, if_pos c7]; exact no 3 (by decide)
                  · rw [if_neg c7, if_neg (by decide), if_neg c7]
                    by_cases c8 : ga (sg 14) 2 t - p4 < p5
                    · rw [if_pos c8, if_pos rfl, if_neg (by rw [i_le]; rw [i_lt] at c8; omega)]; exact no 3 (by decide)
                    · rw [if_neg c8, if_neg (by decide), if_pos (by rw [i_le]; rw [i_lt] at c8; omega)]
                      have w1 := q2 c7
                      have w2 := q4 c8
                      have w3 := (t4 f hf).2
                      have w4 := (t4 t ht).2
                      rw [i_lt, i_0] at c1 c2
                      rw [i_le, i_0] at c3
                      obtain ⟨p, rfl, hp⟩ : ∃ p : Nat, p2 = nI p ∧ p2.toInt = p := ⟨p2.toInt.toNat, i_nat (by omega), by omega⟩
                      obtain ⟨a, rfl, ha⟩ : ∃ a : Nat, p4 = nI a ∧ p4.toInt = a := ⟨p4.toInt.toNat, i_nat (by omega), by omega⟩
                      obtain ⟨n, rfl, hn⟩ : ∃ n : Nat, p5 = nI n ∧ p5.toInt = n := ⟨p5.toInt.toNat, i_nat (by omega), by omega⟩
                      rw [hp] at w1
                      rw [ha] at w2
                      rw [hn] at w1 w2
                      exact pour_ok hR hf ht (by omega) (by omega)
                · rw [if_neg c6, if_neg c6]; exact no 8 (by decide)
          · rw [if_neg c3, if_neg c3]; exact no 1 (by decide)
    · rw [e1, e3, i00, i10, e2, e4, i10, i00]
      exact no 1 (by decide)
  · simp only [e1, e2, i00, i10, if_true]
    exact no 1 (by decide)
