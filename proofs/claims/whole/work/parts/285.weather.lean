/-! ===== (B) a bench's text: weather, dislikes ===== -/
/-- a new day in the draft -/
theorem addDay_raw {b : Rc} (e9 : gi b 9 = nI (cD b)) (hD : cD b < 60) {w : Nat} (hw : w ≤ 2) : AD b (fX0_addDay (nI w) b) w := by
  have one : ∀ k, k < 64 → tb ((1 : Int64) <<< ((gi b 9).toInt64 &&& 63)) k = decide (k = cD b) := fun k hk => by rw [e9]; exact tb_one (by omega) hk
  unfold fX0_addDay fX0_canAddDay fX0_addDay_J27 lt_
  rw [if_neg (show ¬ (60 : Int32) ≤ gi b 9 by rw [e9]; exact nI_ge (b := 60) hD (by decide)), i10]
  have hs : w = 0 ∨ w = 1 ∨ w = 2 := by omega
  rcases hs with rfl | rfl | rfl
  · rw [if_pos (show nI 0 = 0 from rfl), if_neg (show ¬ nI 0 = 2 by decide)]
    refine ⟨rfl, ?_, rfl, rfl, rfl, rfl, fun k hk => ?_, fun k hk => ?_⟩
    · show gi b 9 + 1 = _
      rw [e9, nI_1]
    · show wetB b k = _
      simp
    · show hailB b k = _
      simp
  · rw [if_neg (show ¬ nI 1 = 0 by decide)]
    dsimp only
    rw [if_neg (show ¬ nI 1 = 2 by decide)]
    refine ⟨rfl, ?_, rfl, rfl, rfl, rfl, fun k hk => ?_, fun k hk => ?_⟩
    · show gi b 9 + 1 = _
      rw [e9, nI_1]
    · show tb (gl b 10 ||| _) k = _
      rw [tb_or, one k hk]
      unfold wetB
      simp
    · show hailB b k = _
      simp
  · rw [if_neg (show ¬ nI 2 = 0 by decide)]
    dsimp only
    rw [if_pos (show nI 2 = 2 from rfl)]
    refine ⟨rfl, ?_, rfl, rfl, rfl, rfl, fun k hk => ?_, fun k hk => ?_⟩
    · show gi b 9 + 1 = _
      rw [e9, nI_1]
    · show tb (gl b 10 ||| _) k = _
      rw [tb_or, one k hk]
      unfold wetB
      simp
    · show tb (gl b 11 ||| _) k = _
      rw [tb_or]
      show (tb (gl b 11) k || tb ((1 : Int64) <<< ((gi b 9).toInt64 &&& 63)) k) = _
      rw [one k hk]
      unfold hailB
      simp
theorem DR_day {d M : Rc} {F D w : Nat} (h : DR d M F D) (hD : D < 60) (hw : w ≤ 2) : DR (fX0_addDay (nI w) d) (sa M 0 (upd (upd (ga M 0) (4282 + D) (nI w)) 4161 (nI (D + 1)))) F (D + 1) := by
  obtain ⟨⟨a1, a2, a3⟩, ⟨c1, c2, c3⟩, e2, e3, e4, e5, e6, e7, e8, e9, e10, e11, e12⟩ := h
  have hcD : cD d = D := by unfold cD; rw [c2, nI_toInt (by omega)]; omega
  obtain ⟨q8, q9, q12, q13, qa, qb, qw, qh⟩ := addDay_raw (b := d) (by rw [hcD]; exact c2) (by omega) hw
  rw [hcD] at q9 qw qh
  generalize fX0_addDay (nI w) d = d' at *
  have up : ∀ k, ¬ k = 4161 → ¬ k = 4282 + D → ga (sa M 0 (upd (upd (ga M 0) (4282 + D) (nI w)) 4161 (nI (D + 1)))) 0 k = ga M 0 k := fun k h1 h2 => by rw [ga_sa0, upd_ne _ _ h1, upd_ne _ _ h2]
  have wz := e9 D (Nat.le_refl _)
  have hz : hailB d D = false := by
    cases q : hailB d D with
    | false => rfl
    | true => rw [e10 _ q] at wz; cases wz
  refine ⟨⟨a1, q8.trans a2, (up _ (by omega) (by omega)).trans a3⟩, ⟨by omega, q9, by rw [ga_sa0]; exact upd_eq _ _ _⟩, ⟨by rw [q12]; exact (up _ (by omega) (by omega)).trans e2.1, by rw [q12]; exact e2.2⟩, (up _ (by omega) (by omega)).trans e3, fun f hf => ?_, fun f hf => ?_, fun i hi => ?_, fun f hf => ?_, fun k hk => ?_, fun k hk => ?_, fun k hk => ?_, by rw [q13]; exact e11, fun k k1 k2 => (up k (by omega) (by omega)).trans (e12 k k1 k2)⟩
  · obtain ⟨z0, z1, z2, z3, z4, z5, z6⟩ := e4 f hf
    unfold DRF elbB at *
    rw [qa, q13]
    exact ⟨(up _ (by omega) (by omega)).trans z0, (up _ (by omega) (by omega)).trans z1, (up _ (by omega) (by omega)).trans z2, (up _ (by omega) (by omega)).trans z3, (up _ (by omega) (by omega)).trans z4, (up _ (by omega) (by omega)).trans z5, z6⟩
  · obtain ⟨u, u1, u2, u3⟩ := e5 f hf
    exact ⟨u, u1, by rw [qb]; exact u2, u3⟩
  · rw [qa, up _ (by omega) (by omega)]; exact e6 i hi
  · rw [qa]; exact e7 f hf
  · rw [qw k (by omega), qh k (by omega)]
    by_cases c : k = D
    · subst c
      rw [ga_sa0, upd_ne _ _ (by omega), upd_eq, wz, hz]
      have hs : w = 0 ∨ w = 1 ∨ w = 2 := by omega
      rcases hs with rfl | rfl | rfl <;> simp <;> rfl
    · rw [up _ (by omega) (by omega), decide_eq_false (fun z => c z.1), decide_eq_false (fun z => c z.1), Bool.or_false, Bool.or_false]
      exact e8 k (by omega)
  · by_cases q : k < 64
    · rw [qw k q, e9 k (by omega), decide_eq_false (by omega)]; rfl
    · exact tb_ge (by omega)
  · have q := tb64 hk
    rw [qh k q] at hk
    rw [qw k q]
    rcases (Bool.or_eq_true _ _).mp hk with z | z
    · rw [e10 k z]; rfl
    · have := of_decide_eq_true z
      rw [decide_eq_true ⟨this.1, by omega⟩, Bool.or_true]
theorem isub {a e : Nat} (h : a ≤ e) (he : e ≤ 2000) : nI e - nI a = nI (e - a) := by
  apply i_ext
  have y1 : (nI e).toInt = (e : Int) := nI_toInt (by omega)
  have y2 : (nI a).toInt = (a : Int) := nI_toInt (by omega)
  rw [i_sub (by omega) (by omega), y1, y2, nI_toInt (by omega)]
  omega
theorem weather_eq {t : Nat → Int32} {N e : Nat} {bt tk d M : Rc} {F D : Nat} (h : G t N e tk M) (hd : DR d M F D) (hv : gi bt 3 = gi M 20) (hb : isb (gi bt 3) = true) : PT t N e tk M ((fX1_readWeather bt tk d).bind (fun r => some (r.1, bt, r.2.1, r.2.2))) (fX11_aWeather M) := by
  unfold fX1_readWeather fX11_aWeather
  obtain ⟨tk1, M1, m1, fa, fk, ⟨q1, fc, e1, he1, -, hG2⟩ | ⟨q1, hY⟩⟩ := adv_G h
  · rw [m1, q1, bs, bs]
    dsimp only
    rw [if_neg (show ¬ (1 : Int32) = 0 by decide)]
    have hM1 : FP M M1 := FA_FP fa
    have hd1 : DR d M1 F D := DR_FA hd fa
    have hv1 : gi bt 3 = gi M1 20 := hv.trans (fa.2 20 (by omega)).symm
    obtain ⟨⟨aF, aF2, aF3⟩, ⟨aD, aD2, aD3⟩, -⟩ := hd1
    have hd1 : DR d M1 F D := DR_FA hd fa
    have hGG := hG2
    obtain ⟨hT, ⟨a, t1, t2, t3, t4, t5, t6, ht⟩, -⟩ := hG2
    have hN := hT.2.2.2.1
    have c41 : (4161 : Int32).toNatClampNeg = 4161 := rfl
    -- both say: 2
    have bad2 : ∀ c m, c = some ((0 : Int32), (fX8_fail 2 tk1).2, d) → m = some ((fX11_fails 2 M1).1, (fX11_fails 2 M1).2) → PT t N e tk M (c.bind (fun r => some (r.1, bt, r.2.1, r.2.2))) m := fun c m hc hm => by
      obtain ⟨tk', M', z1, z2, z3, z4, z5⟩ := fail_G hGG (k := 2) (by decide) (by decide)
      rw [hc, hm, show fX8_fail 2 tk1 = _ from z1, show fX11_fails 2 M1 = _ from z2]
      exact PT_X (FK_trans fk z3) (FP_trans hM1 z4) z5 _ _
    have notword : ¬ gi tk1 6 = 1 → fX8_mustBeLetters tk1 = some ((0 : Int32), (fX8_fail 2 tk1).2) := by
      intro hne
      unfold fX8_mustBeLetters fX8_mustBeLetters_J26 fX8_mustBeLetters_J27 lt_
      dsimp only
      rw [if_neg hne, loopF_stop (show fX8_mustBeLetters_L33 tk1 ((0 : Int32), gi tk1 4) = some (.inr 0) from by unfold fX8_mustBeLetters_L33; rw [if_pos rfl]), bs]
      rfl
    rcases ht with ⟨q1, q2, -⟩ | ⟨q1, q2, q3, q4, q5⟩ | ⟨q1, q2, -⟩ | ⟨q1, q2, -⟩
    · rw [notword (by rw [q1]; decide), bs, q2, if_neg (show ¬ (0 : Int32) = 2 by decide)]
      exact bad2 _ _ rfl rfl
    · -- a word
      rw [q2, if_pos rfl, t5, t6, isub t1 (by omega)]
      by_cases c60 : e1 - a ≤ 60
      · rw [if_pos (show nI (e1 - a) ≤ 60 from nI_le (b := 60) c60 (by decide))]
        obtain ⟨r, l1, hr⟩ := loop_one (b := fX8_mustBeLetters_L33 tk1) (fun i s => (s = ((1 : Int32), nI (a + i)) ∧ ∀ k, a ≤ k → k < a + i → ∃ w, w ≤ 2 ∧ sky (t k) = nI w) ∨ (s.1 = 0 ∧ ¬ ∀ k, a ≤ k → k < e1 → ∃ w, w ≤ 2 ∧ sky (t k) = nI w)) (fun r => (r = 0 ∧ ¬ ∀ k, a ≤ k → k < e1 → ∃ w, w ≤ 2 ∧ sky (t k) = nI w) ∨ (r = 1 ∧ ∀ k, a ≤ k → k < e1 → ∃ w, w ≤ 2 ∧ sky (t k) = nI w)) (e1 - a) (fun i s hi h => by
            rcases h with ⟨rfl, hall⟩ | ⟨h0, hno⟩
            · left
              obtain ⟨w1, w2, w3, w4⟩ := sky_eq2 hT (i := a + i) (by omega)
              unfold fX8_mustBeLetters_L33
              dsimp only
              rw [if_neg (by decide), t4, if_neg (nI_ge (by omega) (by omega)), w1, bs]
              rcases w4 with w4 | ⟨w, hw, w4⟩
              · rw [w4, if_pos rfl]
                refine ⟨_, rfl, Or.inr ⟨rfl, fun z => ?_⟩⟩
                obtain ⟨w, hw, hw2⟩ := z (a + i) (by omega) (by omega)
                rw [w4] at hw2
                exact absurd hw2.symm (nI_m1 (by omega))
              · rw [w4, if_neg (nI_m1 (by omega)), nI_1]
                refine ⟨_, rfl, Or.inl ⟨rfl, fun k k1 k2 => ?_⟩⟩
                rcases Nat.lt_or_ge k (a + i) with z | z
                · exact hall k k1 z
                · rw [show k = a + i by omega]; exact ⟨w, hw, w4⟩
            · right
              unfold fX8_mustBeLetters_L33
              rw [h0, if_pos rfl]
              exact ⟨_, rfl, Or.inl ⟨rfl, hno⟩⟩) (fun s h => by
            rcases h with ⟨rfl, hall⟩ | ⟨h0, hno⟩
            · unfold fX8_mustBeLetters_L33
              dsimp only
              rw [if_neg (by decide), t4, if_pos (nI_le (by omega) (by omega))]
              exact ⟨_, rfl, Or.inr ⟨rfl, fun k k1 k2 => hall k k1 (by omega)⟩⟩
            · unfold fX8_mustBeLetters_L33
              rw [h0, if_pos rfl]
              exact ⟨_, rfl, Or.inl ⟨rfl, hno⟩⟩) (e1 - a) 0 ((1 : Int32), nI a) (by omega) (Or.inl ⟨rfl, fun k k1 k2 => by omega⟩)
        obtain ⟨r2, l2, hr2⟩ := loop_one (b := fX11_aWeather_L37 M1) (fun i s => s = nI (a + i) ∧ ∀ k, a ≤ k → k < a + i → ∃ w, w ≤ 2 ∧ sky (t k) = nI w) (fun r => (r = .inl () ∧ ¬ ∀ k, a ≤ k → k < e1 → ∃ w, w ≤ 2 ∧ sky (t k) = nI w) ∨ (r = .inr () ∧ ∀ k, a ≤ k → k < e1 → ∃ w, w ≤ 2 ∧ sky (t k) = nI w)) (e1 - a) (fun i s hi h => by
            obtain ⟨rfl, hall⟩ := h
            obtain ⟨w1, w2, w3, w4⟩ := sky_eq2 hT (i := a + i) (by omega)
            unfold fX11_aWeather_L37
            rw [t6, if_neg (nI_ge (by omega) (by omega)), w2, bs, w3]
            rcases w4 with w4 | ⟨w, hw, w4⟩
            · right
              rw [w4, if_pos rfl]
              refine ⟨_, rfl, Or.inl ⟨rfl, fun z => ?_⟩⟩
              obtain ⟨w, hw, hw2⟩ := z (a + i) (by omega) (by omega)
              rw [w4] at hw2
              exact absurd hw2.symm (nI_m1 (by omega))
            · left
              rw [w4, if_neg (nI_m1 (by omega)), nI_1]
              refine ⟨_, rfl, rfl, fun k k1 k2 => ?_⟩
              rcases Nat.lt_or_ge k (a + i) with z | z
              · exact hall k k1 z
              · rw [show k = a + i by omega]; exact ⟨w, hw, w4⟩) (fun s h => by
            obtain ⟨rfl, hall⟩ := h
            unfold fX11_aWeather_L37
            rw [t6, if_pos (nI_le (by omega) (by omega))]
            exact ⟨_, rfl, Or.inr ⟨rfl, fun k k1 k2 => hall k k1 (by omega)⟩⟩) (e1 - a) 0 (nI a) (by omega) ⟨rfl, fun k k1 k2 => by omega⟩
        have ml : fX8_mustBeLetters tk1 = fX8_mustBeLetters_J66 tk1 r := by
          unfold fX8_mustBeLetters fX8_mustBeLetters_J27 lt_
          dsimp only
          rw [q1, if_pos rfl, t3, t4, isub t1 (by omega), if_neg (show ¬ (60 : Int32) < nI (e1 - a) from nI_nlt (a := 60) c60 (by decide)), l1]
          rfl
        unfold lt_
        dsimp only
        rw [ml, l2]
        rcases hr2 with ⟨rfl, hno⟩ | ⟨rfl, hall⟩
        · have r0 : r = 0 := by
            rcases hr with ⟨z, -⟩ | ⟨-, z⟩
            · exact z
            · exact absurd z hno
          rw [r0]
          exact bad2 _ _ rfl rfl
        · have r1 : r = 1 := by
            rcases hr with ⟨-, z⟩ | ⟨z, -⟩
            · exact absurd hall z
            · exact z
          rw [r1, show fX8_mustBeLetters_J66 tk1 1 = some ((1 : Int32), tk1) from rfl, bs, bs]
          dsimp only [Sum.elim]
          rw [if_neg (show ¬ (1 : Int32) = 0 by decide), aD2, t3, t4, c41, aD3, nI_add]
          have es : nI (D + e1) - nI a = nI (D + e1 - a) := isub (by omega) (by omega)
          rw [es]
          by_cases c6 : D + e1 - a ≤ 60
          · rw [if_pos (show nI (D + e1 - a) ≤ 60 from nI_le (b := 60) c6 (by decide)), if_pos (show nI (D + e1 - a) ≤ 60 from nI_le (b := 60) c6 (by decide))]
            -- the days come
            obtain ⟨r3, k3, l3, l4, d', g, rfl, rfl, hd', hg⟩ := loop_rel (b := fX1_readWeather_L68 ((1 : Int32), tk1)) (c := fX11_aWeather_L104) (fun i s u => ∃ (d' : Rc) (g : Nat → Int32), s = (nI (a + i), d') ∧ u = (nI (a + i), sa M1 0 g) ∧ DR d' (sa M1 0 g) F (D + i) ∧ ∀ k, k < 4160 → g k = ga M1 0 k) (fun r u => ∃ (d' : Rc) (g : Nat → Int32), r = d' ∧ u = sa M1 0 g ∧ DR d' (sa M1 0 g) F (D + (e1 - a)) ∧ ∀ k, k < 4160 → g k = ga M1 0 k) (e1 - a) (fun i s u hi h => by
                obtain ⟨d', g, rfl, rfl, hd', hg⟩ := h
                left
                obtain ⟨w, hw, w4⟩ := hall (a + i) (by omega) (by omega)
                obtain ⟨w1, -, w3, -⟩ := sky_eq2 hT (i := a + i) (by omega)
                have hT2 : TX t N tk1 (sa M1 0 g) := hT
                obtain ⟨-, w2, -, -⟩ := sky_eq2 hT2 (i := a + i) (by omega)
                have n1 : ga (sa M1 0 g) 0 4161 = nI (D + i) := hd'.2.1.2.2
                unfold fX1_readWeather_L68 fX11_aWeather_L104 lt_
                dsimp only
                rw [t4, if_neg (nI_ge (by omega) (by omega)), w1, bs, w4, show gi (sa M1 0 g) 14 = nI e1 from t6, if_neg (nI_ge (by omega) (by omega)), w2, bs, w3, w4, c41, n1, show (4282 : Int32) = nI 4282 from rfl, nI_add, gd_pos (inbn (by omega) (by decide)), nI_clamp (by omega), nI_1, sa_sa, sa_sa]
                have n2 : ga (sa (sa M1 0 g) 0 (upd (ga (sa M1 0 g) 0) (4282 + (D + i)) (nI w))) 0 4161 = nI (D + i) := by rw [ga_sa0, upd_ne _ _ (by omega)]; exact n1
                have hdd := DR_day hd' (by omega) hw
                rw [sa_sa] at hdd
                rw [ga_sa0, ga_sa0, upd_ne _ _ (by omega), show g 4161 = nI (D + i) by rw [ga_sa0] at n1; exact n1, nI_1]
                rw [ga_sa0] at hdd
                refine ⟨_, _, rfl, rfl, _, _, rfl, rfl, hdd, fun k hk => ?_⟩
                rw [upd_ne _ _ (by omega), upd_ne _ _ (by omega)]
                exact hg k hk) (fun s u h => by
                obtain ⟨d', g, rfl, rfl, hd', hg⟩ := h
                unfold fX1_readWeather_L68 fX11_aWeather_L104
                dsimp only
                rw [t4, if_pos (nI_le (by omega) (by omega)), show gi (sa M1 0 g) 14 = nI e1 from t6, if_pos (nI_le (by omega) (by omega))]
                exact ⟨_, _, rfl, rfl, d', g, rfl, rfl, hd', hg⟩) (e1 - a) 0 (nI a, d) (nI a, M1) (by omega) ⟨d, ga M1 0, rfl, by rw [sa_id]; rfl, by rw [sa_id]; exact hd1, fun _ _ => rfl⟩
            rw [l3, l4, bs, bs]
            have hG3 : G t N e1 tk1 (sa M1 0 g) := G_M hGG (fun _ _ _ => rfl) rfl
            have hM2 : FP M (sa M1 0 g) := FP_trans hM1 ⟨fun _ _ _ _ _ => rfl, fun _ => rfl, fun j h1 => by rw [ga_sa, if_neg h1], fun _ _ => rfl, fun j hj => by rw [ga_sa0]; exact hg j hj, fun _ _ => rfl⟩
            obtain ⟨tk2, M2, m2, fa2, fk2, ⟨w1, fc2, e2, he2, -, hG4⟩ | ⟨w1, hY⟩⟩ := adv_G hG3
            · rw [m2, w1]
              exact ⟨_, tk2, _, M2, FK_trans fk fk2, FP_trans hM2 (FA_FP fa2), Or.inl ⟨rfl, rfl, ⟨e2, by omega, hG4⟩, ⟨F, _, DR_FA hd' fa2⟩, hv1.trans (fa2.2 20 (by omega)).symm, hb⟩⟩
            · rw [m2, w1]
              exact ⟨_, tk2, _, M2, FK_trans fk fk2, FP_trans hM2 (FA_FP fa2), Or.inr (Or.inl ⟨rfl, rfl, hY⟩)⟩
          · rw [if_neg (show ¬ nI (D + e1 - a) ≤ 60 from nI_ge (a := 60) (by omega) (by omega)), if_neg (show ¬ nI (D + e1 - a) ≤ 60 from nI_ge (a := 60) (by omega) (by omega))]
            obtain ⟨tk', M', z1, z2, z3, z4, z5⟩ := fail_G hGG (k := 6) (by decide) (by decide)
            rw [show fX8_fail 6 tk1 = _ from z1, show fX11_fails 6 M1 = _ from z2]
            exact PT_X (FK_trans fk z3) (FP_trans hM1 z4) z5 _ _
      · rw [if_neg (show ¬ nI (e1 - a) ≤ 60 from nI_ge (a := 60) (by omega) (by omega))]
        have ml : fX8_mustBeLetters tk1 = some ((0 : Int32), (fX8_fail 2 tk1).2) := by
          unfold fX8_mustBeLetters fX8_mustBeLetters_J26 fX8_mustBeLetters_J27 lt_
          dsimp only
          rw [q1, if_pos rfl, t3, t4, isub t1 (by omega), if_pos (show (60 : Int32) < nI (e1 - a) from nI_lt (a := 60) (by omega) (by omega)), loopF_stop (show fX8_mustBeLetters_L33 tk1 ((0 : Int32), nI a) = some (.inr 0) from by unfold fX8_mustBeLetters_L33; rw [if_pos rfl]), bs]
          rfl
        rw [ml, bs]
        exact bad2 _ _ rfl rfl
    · rw [notword (by rw [q1]; decide), bs, q2, if_neg (show ¬ (3 : Int32) = 2 by decide)]
      exact bad2 _ _ rfl rfl
    · rw [notword (by rw [q1]; decide), bs, q2, if_neg (show ¬ (4 : Int32) = 2 by decide)]
      exact bad2 _ _ rfl rfl
  · rw [m1, q1, bs, bs]
    dsimp only
    rw [if_pos rfl, hY.2.2.1, if_neg (show ¬ (1 : Int32) = 2 by decide)]
    unfold lt_
    obtain ⟨M', z1, z2, z3⟩ := fails_Y hY 2
    rw [z1]
    exact PT_X fk (FP_trans (FA_FP fa) z2) z3 _ _
