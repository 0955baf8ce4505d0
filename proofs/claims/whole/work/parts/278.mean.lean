/-! ===== (B) mean ===== -/
theorem SZ_frame {z b b' M T : Rc} {n : Nat} (hg : ∀ k, k < 1040 → ga T 0 k = ga M 0 k) (hc : cF b' = cF b) (h : SZ z b M n) : SZ z b' T n := by
  obtain ⟨s1, s2, s3, s4, s5⟩ := h
  refine ⟨s1, s2, (hg 3 (by omega)).trans s3, fun k hk => ?_, s5⟩
  obtain ⟨r1, r2, r3, r4⟩ := s4 k hk
  have e0 := hg (0 + 670 + 6 * k) (by omega)
  have e1 := hg (0 + 670 + 6 * k + 1) (by omega)
  have e2 := hg (0 + 670 + 6 * k + 2) (by omega)
  have e4 := hg (0 + 670 + 6 * k + 4) (by omega)
  have e5 := hg (0 + 670 + 6 * k + 5) (by omega)
  unfold ZR
  unfold ZN ZF ZP ZG ff at *
  rw [e0, e1, e2, e4, e5, hc]
  exact ⟨r1, r2, r3, r4⟩
theorem rel_T {sg : Nat → Rc} {M T : Rc} (hR : Rel sg M) (hg : ∀ k, k < 5200 → ga T 0 k = ga M 0 k) (hx : Fx M T) (h2 : gi T 2 = gi M 2) : Rel sg T := by
  obtain ⟨x1, x2, x3, x4, x5, x6, x7, x8, x9, x10, x11, x12, x13, x14, x15, x16, x17⟩ := hx
  obtain ⟨s1, s2, s3, s4, s5, s6⟩ := hR.1
  have fr : ∀ b z i, i < 3 → RM b z M i → RM b z T i := fun b z i hi q => ⟨RB_frame (fun k hk => hg _ (by omega)) (fun k hk => by rw [x17]) q.1, RZ_frame (hg _ (by omega)) (fun k hk hk2 => hg _ (by omega)) rfl q.2⟩
  obtain ⟨k1, k2, k3⟩ := hR.2.2.2.1
  exact rel_mk hR ⟨s1.trans h2.symm, s2.trans x9.symm, s3.trans x10.symm, s4.trans x8.symm, s5, s6⟩ (RB_frame (fun k hk => hg _ (by omega)) (fun k hk => by rw [x17]) hR.2.1) (RZ_frame (hg _ (by omega)) (fun k hk hk2 => hg _ (by omega)) rfl hR.2.2.1) ⟨fun q => fr _ _ 0 (by omega) (k1 q), fun q => fr _ _ 1 (by omega) (k2 q), fun q => fr _ _ 2 (by omega) (k3 q)⟩ rfl rfl rfl rfl ⟨x1, x2, x3, x4, x5, x6, x7, x11, x12, x13, x14, x15, x16⟩
theorem n52 (k : Nat) : (5200 : Int32) + nI k = nI (5200 + k) := by rw [show (5200 : Int32) = nI 5200 from rfl, nI_add]
theorem save_eq (M : Rc) : loopF fX11_mean_L60 ((0 : Int32), M) = some (sa M 0 (va_cpy (ga M 0) (ga M 0) 0 5200 670)) := by
  have r := loopF_run (b := fX11_mean_L60) (fun i => (nI i, sa M 0 (va_cpy (ga M 0) (ga M 0) 0 5200 i))) 670 (r := sa M 0 (va_cpy (ga M 0) (ga M 0) 0 5200 670)) (fun i hi => by
      have e := cpyI_fwd (A := 0) (B := 5200) (g := ga M 0) (i := i) (by omega)
      rw [Nat.zero_add] at e
      unfold fX11_mean_L60 lt_
      dsimp only
      rw [if_neg (show ¬ (670 : Int32) ≤ nI i from nI_ge (a := i) (b := 670) hi (by decide)), n52, gd_pos (inbn (by omega) (by decide)), gd_pos (inbn (by omega) (by decide)), nI_clamp (by omega), nI_clamp (by omega), nI_1, sa_sa, ga_sa0, e]) (by
      unfold fX11_mean_L60
      dsimp only
      rw [if_pos (show (670 : Int32) ≤ nI 670 by decide)])
  rw [cpyI_0, sa_id M 0] at r
  exact r
theorem rest_eq (M : Rc) : loopF fX11_mean_L119 ((0 : Int32), M) = some (sa M 0 (va_cpy (ga M 0) (ga M 0) 5200 0 670)) := by
  have r := loopF_run (b := fX11_mean_L119) (fun i => (nI i, sa M 0 (va_cpy (ga M 0) (ga M 0) 5200 0 i))) 670 (r := sa M 0 (va_cpy (ga M 0) (ga M 0) 5200 0 670)) (fun i hi => by
      have e := cpyI_fwd (A := 5200) (B := 0) (g := ga M 0) (i := i) (by omega)
      rw [Nat.zero_add] at e
      unfold fX11_mean_L119 lt_
      dsimp only
      rw [if_neg (show ¬ (670 : Int32) ≤ nI i from nI_ge (a := i) (b := 670) hi (by decide)), n52, gd_pos (inbn (by omega) (by decide)), gd_pos (inbn (by omega) (by decide)), nI_clamp (by omega), nI_clamp (by omega), nI_1, sa_sa, ga_sa0, e]) (by
      unfold fX11_mean_L119
      dsimp only
      rw [if_pos (show (670 : Int32) ≤ nI 670 by decide)])
  rw [cpyI_0, sa_id M 0] at r
  exact r
/-- the reference while it tries: all as it was, and put aside -/
def MT (M T : Rc) : Prop := (∀ k, k < 5200 → ga T 0 k = ga M 0 k) ∧ (∀ k, k < 670 → ga T 0 (5200 + k) = ga M 0 k) ∧ Fx M T ∧ gi T 2 = gi M 2
theorem mean_loop {b M z sp tl td : Rc} {n K : Nat} (hR : RB b M 0 0) (h25 : gi M 25 = -1) (h26 : gi M 26 = 0) (hs : SZ z b M n) (hK : K ≤ 20) (seed : Int32) {T0 : Rc} (hT : MT M T0) : ∃ (S : Nat) (sp' tl' td' T : Rc), loopF (fX10_mean_L60 seed (nI K) b z) ((0 : Int64), (0 : Int32), sp, tl, td) = some (lN S, sp', tl', td') ∧ loopF (fX11_mean_L94 seed (nI K)) ((0 : Int64), (0 : Int32), T0) = some (lN S, T) ∧ S ≤ 1200 ∧ MT M T := by
  obtain ⟨r, k, l1, l2, S, sp', tl', td', T, rfl, rfl, h1, h2⟩ := loop_rel (b := fX10_mean_L60 seed (nI K) b z) (c := fX11_mean_L94 seed (nI K)) (fun i s t => ∃ (S : Nat) (sp tl td T : Rc), s = (lN S, nI i, sp, tl, td) ∧ t = (lN S, nI i, T) ∧ S ≤ 60 * i ∧ MT M T) (fun r t => ∃ (S : Nat) (sp tl td T : Rc), r = (lN S, sp, tl, td) ∧ t = (lN S, T) ∧ S ≤ 1200 ∧ MT M T) K (fun i s t hi h => by
      obtain ⟨S, sp, tl, td, T, rfl, rfl, hS, hT⟩ := h
      left
      obtain ⟨m1, m2, m3, m4⟩ := hT
      obtain ⟨b2, c1, eb⟩ := copyB sp b
      have hc := EB_cF eb
      have rb : RB b2 T 0 0 := RB_copy eb (fun k hk => by rw [Nat.zero_add]; exact m1 k (by omega)) (fun k hk => by rw [m3.2.2.2.2.2.2.2.2.2.2.2.2.2.2.2.2]) hR
      have t25 : gi T 25 = -1 := m3.2.2.2.1.trans h25
      have t26 : gi T 26 = 0 := m3.2.2.2.2.1.trans h26
      have hs2 : SZ z b2 T n := SZ_frame (fun k hk => m1 k (by omega)) hc.1 hs
      obtain ⟨lf', dr', b', M', r1, r2, w1, w2, w3, w9, w10, w11, w12⟩ := lives_eq (lf := tl) (dr := td) rb t25 t26 hs2 (seed + nI i)
      have k25 : gi M' 25 = -1 := w10.2.2.2.1.trans t25
      have k26 : gi M' 26 = 0 := w10.2.2.2.2.1.trans t26
      have hk := keptOf_S w1 k25 k26
      have kle : keptS b' ≤ 60 := Nat.le_trans (ct_le _ _) w1.1.2.1.2
      have hu : fX0_keptUnder (gi b' 12) (0 : Int32) b' = some (nI (keptS b')) := by
        rw [show (0 : Int32) = nI 0 from rfl, keptUnder_eq w1.1 _ (by decide), keptC_S]
      unfold fX10_mean_L60 fX11_mean_L94 lt_
      dsimp only
      rw [if_neg (nI_ge hi (by omega)), if_neg (nI_ge hi (by omega)), c1, r2]
      dsimp only [Option.bind]
      rw [r1, hk]
      dsimp only
      rw [hu, rest_eq]
      dsimp only
      rw [nI_l (by omega), lN_add, nI_1]
      refine ⟨_, _, rfl, rfl, S + keptS b', b', lf', dr', _, rfl, rfl, by omega, fun k hk => ?_, fun k hk => ?_, fx_trans (fx_trans m3 w10) (fx_sa _ _), w11.trans m4⟩
      · rw [ga_sa0]
        unfold va_cpy
        by_cases c : 0 ≤ k ∧ k < 0 + 670
        · rw [if_pos c, Nat.sub_zero, w9 (5200 + k) (Or.inr (by omega))]
          exact m2 k (by omega)
        · rw [if_neg c, w9 k (Or.inr (by omega))]
          exact m1 k hk
      · rw [ga_sa0]
        unfold va_cpy
        rw [if_neg (by omega), w9 (5200 + k) (Or.inr (by omega))]
        exact m2 k hk) (fun s t h => by
      obtain ⟨S, sp, tl, td, T, rfl, rfl, hS, hT⟩ := h
      unfold fX10_mean_L60 fX11_mean_L94
      dsimp only
      rw [if_pos (nI_le (Nat.le_refl _) (by omega)), if_pos (nI_le (Nat.le_refl _) (by omega))]
      exact ⟨_, _, rfl, rfl, S, sp, tl, td, T, rfl, rfl, by omega, hT⟩) K 0 ((0 : Int64), (0 : Int32), sp, tl, td) ((0 : Int64), (0 : Int32), T0) (by omega) ⟨0, sp, tl, td, T0, rfl, rfl, by omega, hT⟩
  exact ⟨S, sp', tl', td', T, l1, l2, h1, h2⟩
theorem b_mean : BT_mean Rel := by
  intro sg M hR p1 p2
  have hb := hR.2.1
  obtain ⟨-, h25, h26⟩ := rel_b hR
  unfold fX10_mean fX11_mean
  have c33 : (3 : Int32).toNatClampNeg = 3 := rfl
  have no : ∀ v : Int32, ¬ v = 0 → ∃ (r1 : Int32 × Rc × Rc × Rc × Rc) (r2 : Int32 × Rc), lt_ (fX10_deny v (sg 0)) (fun r => some (r.1, r.2, sg 3, sg 20, sg 21)) = some r1 ∧ lt_ (fX11_is v M) (fun r => some (r.1, r.2)) = some r2 ∧ r1.1 = r2.1 ∧ Rel (va_up (va_up (va_up (va_up sg 0 r1.2.1) 3 r1.2.2.1) 20 r1.2.2.2.1) 21 r1.2.2.2.2) r2.2 := by
    intro v hv
    rw [mis_ne hv]
    refine ⟨_, _, rfl, rfl, rfl, ?_⟩
    obtain ⟨h1, h2, h3, h4, h5, h6, h7, h8, h9, h10⟩ := hR
    exact ⟨st_eq h1 v, h2, h3, h4, h5, h6, h7, h8, h9, h10⟩
  rcases rng_cases p1 0 9999 (lo' := 0) (hi' := 9999) rfl rfl with ⟨-, -, e3, e4⟩ | ⟨-, e3, e4⟩
  · rw [e3, e4, i00, i10]
    rcases rng_cases p2 1 20 (lo' := 1) (hi' := 20) rfl rfl with ⟨r1, r2, e5, e6⟩ | ⟨-, e5, e6⟩
    · rw [e5, e6, i00, i10, c33]
      by_cases c : (p1 + p2) - 1 ≤ 9999
      · rw [if_pos c, if_pos c]
        rcases RZ_SZ hR.2.2.1 with ⟨z7, m3⟩ | ⟨z7, n, hs⟩
        · rw [z7, m3, if_pos rfl, if_pos rfl]
          exact no 6 (by decide)
        · have hn := hs.1
          rw [z7, hs.2.2.1, if_neg (by decide), if_neg (nI_m1 (by omega)), save_eq]
          rw [show (1 : Int32).toInt = 1 from rfl] at r1
          rw [show (20 : Int32).toInt = 20 from rfl] at r2
          obtain ⟨K, hK1, hK2, rfl⟩ : ∃ K : Nat, 1 ≤ K ∧ K ≤ 20 ∧ p2 = nI K := ⟨p2.toInt.toNat, by omega, by omega, i_nat (by omega)⟩
          have hT : MT M (sa M 0 (va_cpy (ga M 0) (ga M 0) 0 5200 670)) := by
            refine ⟨fun k hk => ?_, fun k hk => ?_, fx_sa _ _, rfl⟩
            · rw [ga_sa0]; unfold va_cpy; rw [if_neg (by omega)]
            · rw [ga_sa0]; unfold va_cpy; rw [if_pos (by omega), show 0 + (5200 + k - 5200) = k by omega]
          obtain ⟨S, sp', tl', td', T, q1, q2, q3, q4, q5, q6, q7⟩ := mean_loop (sp := sg 3) (tl := sg 20) (td := sg 21) hb h25 h26 hs hK2 p1 hT
          rw [q1]
          dsimp only [Option.bind]
          rw [q2]
          dsimp only
          rw [nI_l (by omega)]
          obtain ⟨z1, z2⟩ := frac_eq (sg 0) T (n := S) (d := K) (by omega) (by omega) (by omega)
          rw [z1, z2]
          refine ⟨_, _, rfl, rfl, rfl, ?_⟩
          have rr := rel_fr (rel_T hR q4 q6 q7) (lN (S / Nat.gcd S K)) (lN (K / Nat.gcd S K)) 0
          obtain ⟨h1, h2, h3, h4, h5, h6, h7, h8, h9, h10⟩ := rr
          exact ⟨h1, h2, h3, h4, h5, h6, h7, h8, h9, h10⟩
      · rw [if_neg c, if_neg c]
        exact no 1 (by decide)
    · rw [e5, e6, i10, i00]
      exact no 1 (by decide)
  · rw [e3, e4, i10, i00]
    exact no 1 (by decide)
