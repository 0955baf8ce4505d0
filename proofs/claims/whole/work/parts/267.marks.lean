/-! ===== (B) marks ===== -/
/-- the same bench, as far as it is looked at -/
def EB (b b' : Rc) : Prop := gi b' 8 = gi b 8 ∧ gi b' 9 = gi b 9 ∧ gi b' 12 = gi b 12 ∧ gi b' 13 = gi b 13 ∧ gl b' 10 = gl b 10 ∧ gl b' 11 = gl b 11 ∧ (∀ k, k < 8 → gb b' 0 k = gb b 0 k ∧ ga b' 1 k = ga b 1 k ∧ ga b' 2 k = ga b 2 k ∧ ga b' 3 k = ga b 3 k ∧ ga b' 4 k = ga b 4 k ∧ ga b' 5 k = ga b 5 k ∧ gb b' 6 k = gb b 6 k) ∧ ∀ k, k < 64 → ga b' 7 k = ga b 7 k
theorem cpy_in {α : Type} {f g : Nat → α} {n k : Nat} (h : k < n) : va_cpy f g 0 0 n k = f k := by
  unfold va_cpy
  rw [if_pos (by omega), Nat.zero_add, Nat.sub_zero]
theorem copyB (s b : Rc) : ∃ b', fX0_copyFrom s b = some b' ∧ EB b b' := by
  refine ⟨_, rfl, rfl, rfl, rfl, rfl, rfl, rfl, fun k hk => ⟨?_, ?_, ?_, ?_, ?_, ?_, ?_⟩, fun k hk => ?_⟩
  · exact cpy_in hk
  · exact cpy_in hk
  · exact cpy_in hk
  · exact cpy_in hk
  · exact cpy_in hk
  · exact cpy_in hk
  · exact cpy_in hk
  · exact cpy_in hk
theorem EB_cF {b b' : Rc} (h : EB b b') : cF b' = cF b ∧ cD b' = cD b := by
  unfold cF cD
  rw [h.1, h.2.1]
  exact ⟨rfl, rfl⟩
theorem BI_copy {b b' : Rc} (he : EB b b') (h : BI b) : BI b' := by
  obtain ⟨e1, e2⟩ := EB_cF he
  obtain ⟨q8, q9, q12, q13, q10, q11, qr, q7⟩ := he
  obtain ⟨⟨h1, h2⟩, ⟨h3, h4⟩, h5, h6, h7, h8, h9, h10, h11⟩ := h
  unfold BI
  rw [e1, e2, q8, q9, q12, q13]
  refine ⟨⟨h1, h2⟩, ⟨h3, h4⟩, fun f hf => ?_, ?_, ?_, h8, fun i hi => ?_, fun f hf => ?_, h11⟩
  · obtain ⟨r0, r1, r2, r3, r4, r5, r6⟩ := qr f (by omega)
    have := h5 f hf
    unfold BF lagZ curZ wgt tw at *
    rw [r1, r2, r3, r4, r5, r6, e2]
    exact this
  · unfold wetB at *
    rw [q10]; exact h6
  · unfold wetB hailB at *
    rw [q10, q11]; exact h7
  · rw [q7 i hi]; exact h9 i hi
  · rw [q7 _ (by omega)]; exact h10 f hf
theorem RB_copy {b b' M M' : Rc} {o o' n n' : Nat} (he : EB b b') (h1 : ∀ k, k < 1040 → ga M' 0 (o' + k) = ga M 0 (o + k)) (h2 : ∀ k, k < 8 → gb M' 1 (n' + k) = gb M 1 (n + k)) (h : RB b M o n) : RB b' M' o' n' := by
  obtain ⟨e1, e2⟩ := EB_cF he
  obtain ⟨hB, r0, r1, r2, r3, r4, r5, r6, r7⟩ := h
  have hB' := BI_copy he hB
  have hF : cF b ≤ 8 := hB.1.2
  have hD : cD b ≤ 60 := hB.2.1.2
  obtain ⟨q8, q9, q12, q13, q10, q11, qr, q7⟩ := he
  unfold RB
  rw [e1, e2, q8, q9, q12]
  have g0 := h1 0 (by omega)
  refine ⟨hB', g0.trans r0, (h1 1 (by omega)).trans r1, (h1 2 (by omega)).trans r2, fun f hf => ?_, fun i hi => ?_, fun d hd => ?_, fun f d hf hd => ?_, fun f hf => ?_⟩
  · obtain ⟨a0, a1, a2, a3, a4, a5⟩ := r3 f hf
    obtain ⟨s0, s1, s2, s3, s4, s5, s6⟩ := qr f (by omega)
    have z0 := h1 (10 + 6 * f) (by omega)
    have z1 := h1 (10 + 6 * f + 1) (by omega)
    have z2 := h1 (10 + 6 * f + 2) (by omega)
    have z3 := h1 (10 + 6 * f + 3) (by omega)
    have z4 := h1 (10 + 6 * f + 4) (by omega)
    have z5 := h1 (10 + 6 * f + 5) (by omega)
    simp only [← Nat.add_assoc] at z0 z1 z2 z3 z4 z5
    unfold elbB at *
    rw [s1, s2, s3, s4, s5, q13, z0, z1, z2, z3, z4, z5]
    exact ⟨a0, a1, a2, a3, a4, a5⟩
  · have z := h1 (58 + i) (by omega)
    simp only [← Nat.add_assoc] at z
    rw [z, q7 i hi]; exact r4 i hi
  · have z := h1 (122 + d) (by omega)
    simp only [← Nat.add_assoc] at z
    unfold wetB hailB at *
    rw [z, q10, q11]; exact r5 d hd
  · have z := h1 (182 + 60 * f + d) (by omega)
    simp only [← Nat.add_assoc] at z
    obtain ⟨s0, s1, s2, s3, s4, s5, s6⟩ := qr f (by omega)
    unfold tw at *
    rw [z, s6]; exact r6 f d hf hd
  · obtain ⟨w, w1, w2, w3⟩ := r7 f hf
    exact ⟨w, w1, (qr f (by omega)).1.trans w2, (h2 f (by omega)).trans w3⟩
def EZ (z z' : Rc) : Prop := gi z' 5 = gi z 5 ∧ gi z' 6 = gi z 6 ∧ gi z' 7 = gi z 7 ∧ ∀ k, k < 60 → ga z' 0 k = ga z 0 k ∧ ga z' 1 k = ga z 1 k ∧ ga z' 2 k = ga z 2 k ∧ ga z' 3 k = ga z 3 k ∧ ga z' 4 k = ga z 4 k
theorem copyZ (s z : Rc) (h : isb (gi z 7) = true) : ∃ z', fX5_copyFrom s z = some z' ∧ EZ z z' := by
  unfold fX5_copyFrom
  simp only [gd_pos h]
  refine ⟨_, rfl, rfl, rfl, rfl, fun k hk => ⟨?_, ?_, ?_, ?_, ?_⟩⟩
  · exact cpy_in hk
  · exact cpy_in hk
  · exact cpy_in hk
  · exact cpy_in hk
  · exact cpy_in hk
theorem RZ_copy {z z' b b' M M' : Rc} {o o' : Nat} (he : EZ z z') (h1 : ga M' 0 (o' + 3) = ga M 0 (o + 3)) (h2 : ∀ k, 670 ≤ k → k < 1030 → ga M' 0 (o' + k) = ga M 0 (o + k)) (hc : cF b' = cF b) (h : RZ z b M o) : RZ z' b' M' o' := by
  obtain ⟨q5, q6, q7, qr⟩ := he
  rcases RZ_frame (b' := b') h1 h2 hc h with ⟨a, c⟩ | ⟨a, n, n1, n2, n3, n4, n5⟩
  · exact Or.inl ⟨q7.trans a, c⟩
  · refine Or.inr ⟨q7.trans a, n, n1, q5.trans n2, n3, fun k hk => ?_, ?_⟩
    · obtain ⟨s0, s1, s2, s3, s4⟩ := qr k (by omega)
      obtain ⟨r1, r2, r3, r4⟩ := n4 k hk
      refine ⟨?_, ?_, ?_, ?_⟩
      · rw [s0]; exact r1
      · unfold ZN ZF ZG ff at *
        rw [s0, s1, s2, s3]; exact r2
      · intro ho
        have ho' : opn z k := by unfold opn at *; rw [s0] at ho; exact ho
        obtain ⟨x1, p, x2, x3, x4, x5, x6⟩ := r3 ho'
        obtain ⟨p0, p1, p2, p3, p4⟩ := qr p (by omega)
        exact ⟨by unfold ZP at *; rw [s4]; exact x1, p, x2, x3, s4.trans x4, p0.trans x5, p4.trans x6⟩
      · intro ho
        obtain ⟨x1, p, x2, x3, x4, x5⟩ := r4 (s0.symm.trans ho)
        obtain ⟨p0, p1, p2, p3, p4⟩ := qr p (by omega)
        exact ⟨by unfold ZP at *; rw [s4]; exact x1, p, x2, by unfold opn at *; rw [p0]; exact x3, s4.trans x4, p4.trans x5⟩
    · intro k j p q hk hj ok oj ek ej hkj hjp hp hq
      obtain ⟨s0, -, -, -, s4⟩ := qr k (by omega)
      obtain ⟨t0, -, -, -, t4⟩ := qr j (by omega)
      unfold opn at ok oj
      rw [s0] at ok
      rw [t0] at oj
      exact n5 k j p q hk hj ok oj (s4.symm.trans ek) (t4.symm.trans ej) hkj hjp hp hq
theorem RZ_isb {z b M : Rc} {o : Nat} (h : RZ z b M o) : isb (gi z 7) = true := by
  rcases h with ⟨a, -⟩ | ⟨a, -⟩ <;> (rw [a]; decide)
/-- all that the relation sees beside the slots, the status, the fraction and the marks -/
def Fm (M M' : Rc) : Prop := gi M' 10 = gi M 10 ∧ gi M' 16 = gi M 16 ∧ gi M' 17 = gi M 17 ∧ gi M' 25 = gi M 25 ∧ gi M' 26 = gi M 26 ∧ gi M' 31 = gi M 31 ∧ gi M' 36 = gi M 36 ∧ ga M' 5 = ga M 5 ∧ ga M' 6 = ga M 6 ∧ ga M' 8 = ga M 8 ∧ ga M' 30 = ga M 30 ∧ ga M' 35 = ga M 35 ∧ gb M' 7 = gb M 7
theorem rel_mk {sg sg' : Nat → Rc} {M M' : Rc} (hR : Rel sg M) (h0 : RS (sg' 0) M') (h1 : RB (sg' 1) M' 0 0) (h2 : RZ (sg' 2) (sg' 1) M' 0) (h3 : RMs sg' M') (e14 : sg' 14 = sg 14) (e15 : sg' 15 = sg 15) (e18 : sg' 18 = sg 18) (e23 : sg' 23 = sg 23) (hx : Fm M M') : Rel sg' M' := by
  obtain ⟨-, -, -, -, h5, ⟨h6, h6b⟩, h7, h8, h9, h10⟩ := hR
  obtain ⟨x10, x16, x17, x25, x26, x31, x36, y5, y6, y8, y30, y35, z7⟩ := hx
  refine ⟨h0, h1, h2, h3, ?_, ⟨?_, ?_⟩, ?_, ?_, x25.trans h9, x26.trans h10⟩
  · rw [e14]
    obtain ⟨t1, t2, t3, t4⟩ := h5
    exact ⟨t1.trans y5.symm, t2.trans y6.symm, t3.trans z7.symm, t4⟩
  · rw [e15]
    obtain ⟨t1, t2, t3, t4, t5, t6⟩ := h6
    exact ⟨t1.trans y8.symm, t2.trans x10.symm, t3, t4.trans x16.symm, t5.trans x17.symm, t6⟩
  · rw [e15]; exact h6b
  · rw [e18]
    unfold RL_ at *
    rw [x36, y35]
    exact h7
  · rw [e23]
    unfold RW_ at *
    rw [x31, y30]
    exact h8
theorem cpyI_fwd {A B : Nat} {g : Nat → Int32} {i : Nat} (h : ¬ (B ≤ A + i ∧ A + i < B + i)) : upd (va_cpy g g A B i) (B + i) (va_cpy g g A B i (A + i)) = va_cpy g g A B (i + 1) := by
  funext j
  have hc : va_cpy g g A B i (A + i) = g (A + i) := by unfold va_cpy; rw [if_neg h]
  rw [hc]
  unfold upd va_cpy
  by_cases c : j = B + i
  · subst c
    rw [if_pos rfl, if_pos (by omega)]
    congr 1
    omega
  · rw [if_neg c]
    by_cases c2 : B ≤ j ∧ j < B + i
    · rw [if_pos c2, if_pos (by omega)]
    · rw [if_neg c2, if_neg (by omega)]
theorem cpyI_0 (g : Nat → Int32) (A B : Nat) : va_cpy g g A B 0 = g := by
  funext j
  unfold va_cpy
  rw [if_neg (by omega)]
theorem ga_sa0 (s : Rc) (k : Nat) (v : Nat → Int32) : ga (sa s k v) k = v := by rw [ga_sa, if_pos rfl]
def cpM (M : Rc) (a c : Nat) : Rc := sb (sa M 0 (va_cpy (ga M 0) (ga M 0) (1040 * a) (1040 * c) 1040)) 1 (va_cpy (gb M 1) (gb M 1) (8 * a) (8 * c) 8)
theorem copies_eq (M : Rc) {a c : Nat} (ha : a ≤ 4) (hc : c ≤ 4) (hne : ¬ a = c) : fX11_copies (nI a) (nI c) M = some (cpM M a c) := by
  have ix : ∀ u k : Nat, ((1040 : Int32) * nI u) + nI k = nI (1040 * u + k) := fun u k => by rw [show (1040 : Int32) = nI 1040 from rfl, nI_mul, nI_add]
  have iy : ∀ u k : Nat, ((8 : Int32) * nI u) + nI k = nI (8 * u + k) := fun u k => by rw [show (8 : Int32) = nI 8 from rfl, nI_mul, nI_add]
  have r := loopF_run (b := fX11_copies_L2 (nI a) (nI c)) (fun i => (nI i, sa M 0 (va_cpy (ga M 0) (ga M 0) (1040 * a) (1040 * c) i))) 1040 (r := sa M 0 (va_cpy (ga M 0) (ga M 0) (1040 * a) (1040 * c) 1040)) (fun i hi => by
      unfold fX11_copies_L2 lt_
      dsimp only
      rw [if_neg (show ¬ (1040 : Int32) ≤ nI i from nI_ge (a := i) (b := 1040) hi (by decide)), ix, ix, gd_pos (inbn (by omega) (by decide)), gd_pos (inbn (by omega) (by decide)), nI_clamp (by omega), nI_clamp (by omega), nI_1, sa_sa, ga_sa0, cpyI_fwd (by rcases Nat.lt_trichotomy a c with z | z | z <;> omega)]) (by
      unfold fX11_copies_L2
      dsimp only
      rw [if_pos (show (1040 : Int32) ≤ nI 1040 by decide)])
  rw [cpyI_0, sa_id M 0] at r
  generalize hM1 : sa M 0 (va_cpy (ga M 0) (ga M 0) (1040 * a) (1040 * c) 1040) = M1 at r
  have g1 : gb M1 1 = gb M 1 := by rw [← hM1]; rfl
  have r2 := loopF_run (b := fX11_copies_L41 (nI a) (nI c)) (fun i => (nI i, sb M1 1 (va_cpy (gb M 1) (gb M 1) (8 * a) (8 * c) i))) 8 (r := sb M1 1 (va_cpy (gb M 1) (gb M 1) (8 * a) (8 * c) 8)) (fun i hi => by
      unfold fX11_copies_L41 lt_
      dsimp only
      rw [if_neg (show ¬ (8 : Int32) ≤ nI i from nI_ge (a := i) (b := 8) hi (by decide)), iy, iy, gd_pos (inbn (by omega) (by decide)), gd_pos (inbn (by omega) (by decide)), nI_clamp (by omega), nI_clamp (by omega), nI_1, sb_sb, gb_sb0, cpy_fwd (n := 8) (fun k hk => by rcases Nat.lt_trichotomy a c with z | z | z <;> omega) hi]) (by
      unfold fX11_copies_L41
      dsimp only
      rw [if_pos (show (8 : Int32) ≤ nI 8 by decide)])
  rw [cpy_0, sb_id M1 1 g1] at r2
  unfold fX11_copies
  rw [show ((0 : Int32), M) = (nI 0, M) from rfl, r]
  dsimp only [Option.bind]
  rw [show ((0 : Int32), M1) = (nI 0, M1) from rfl, r2]
  unfold cpM
  rw [hM1]
theorem cpM_in (M : Rc) (a c : Nat) : (∀ k, k < 1040 → ga (cpM M a c) 0 (1040 * c + k) = ga M 0 (1040 * a + k)) ∧ (∀ k, k < 8 → gb (cpM M a c) 1 (8 * c + k) = gb M 1 (8 * a + k)) := by
  constructor
  · intro k hk
    show va_cpy (ga M 0) (ga M 0) (1040 * a) (1040 * c) 1040 (1040 * c + k) = _
    unfold va_cpy
    rw [if_pos (by omega)]
    congr 1; omega
  · intro k hk
    show va_cpy (gb M 1) (gb M 1) (8 * a) (8 * c) 8 (8 * c + k) = _
    unfold va_cpy
    rw [if_pos (by omega)]
    congr 1; omega
theorem cpM_out (M : Rc) (a c d : Nat) (h : ¬ c = d) : (∀ k, k < 1040 → ga (cpM M a c) 0 (1040 * d + k) = ga M 0 (1040 * d + k)) ∧ (∀ k, k < 8 → gb (cpM M a c) 1 (8 * d + k) = gb M 1 (8 * d + k)) := by
  constructor
  · intro k hk
    show va_cpy (ga M 0) (ga M 0) (1040 * a) (1040 * c) 1040 (1040 * d + k) = _
    unfold va_cpy
    rw [if_neg (by rcases Nat.lt_trichotomy c d with z | z | z <;> omega)]
  · intro k hk
    show va_cpy (gb M 1) (gb M 1) (8 * a) (8 * c) 8 (8 * d + k) = _
    unfold va_cpy
    rw [if_neg (by rcases Nat.lt_trichotomy c d with z | z | z <;> omega)]
theorem cpM_RM {M : Rc} {a c i : Nat} (h : ¬ c = i + 1) {b z : Rc} (q : RM b z M i) : RM b z (cpM M a c) i := by
  obtain ⟨o1, o2⟩ := cpM_out M a c (i + 1) h
  exact ⟨RB_frame o1 o2 q.1, RZ_frame (o1 3 (by omega)) (fun k hk hk2 => o1 k (by omega)) rfl q.2⟩
theorem EB_refl (b : Rc) : EB b b := ⟨rfl, rfl, rfl, rfl, rfl, rfl, fun _ _ => ⟨rfl, rfl, rfl, rfl, rfl, rfl, rfl⟩, fun _ _ => rfl⟩
theorem marks_cases {kb M : Rc} (h : RS kb M) : ∃ m : Nat, m ≤ 3 ∧ gi kb 15 = nI m ∧ gi M 37 = nI m := by
  obtain ⟨-, -, -, h4, h5, h6⟩ := h
  exact ⟨(gi kb 15).toInt.toNat, by omega, i_nat h5, h4.symm.trans (i_nat h5)⟩
theorem b_mark : BT_mark Rel := by
  intro sg M hR
  obtain ⟨m, hm, m1, m2⟩ := marks_cases hR.1
  have hRS := hR.1
  have hb := hR.2.1
  have hz := hR.2.2.1
  obtain ⟨k1, k2, k3⟩ := hR.2.2.2.1
  unfold fX10_mark fX11_mark lt_
  rw [m1, m2]
  rcases Nat.lt_or_ge m 3 with h | h
  · rw [if_pos (show nI m < 3 from nI_lt (b := 3) h (by decide)), if_neg (show ¬ nI m = 3 from fun z => by have := (nI_eq (a := m) (b := 3) (by omega) (by decide)).mp z; omega)]
    dsimp only
    rw [nI_1, show gi (si M 37 (nI (m + 1))) 37 = nI (m + 1) from rfl, show fX11_copies (0 : Int32) = fX11_copies (nI 0) from rfl, copies_eq _ (a := 0) (c := m + 1) (by omega) (by omega) (by omega)]
    generalize hM1 : si M 37 (nI (m + 1)) = M1
    have ga1 : ga M1 0 = ga M 0 := by rw [← hM1]; rfl
    have gb1 : gb M1 1 = gb M 1 := by rw [← hM1]; rfl
    obtain ⟨o1, o2⟩ := cpM_out M1 0 (m + 1) 0 (by omega)
    obtain ⟨i1, i2⟩ := cpM_in M1 0 (m + 1)
    have hb1 : RB (sg 1) M1 0 0 := RB_frame (fun k _ => by rw [ga1]) (fun k _ => by rw [gb1]) hb
    have hz1 : RZ (sg 2) (sg 1) M1 0 := RZ_frame (by rw [ga1]) (fun k _ _ => by rw [ga1]) rfl hz
    have rb : RB (sg 1) (cpM M1 0 (m + 1)) 0 0 := RB_frame (fun k hk => o1 k hk) (fun k hk => o2 k hk) hb1
    have rz : RZ (sg 2) (sg 1) (cpM M1 0 (m + 1)) 0 := RZ_frame (o1 3 (by omega)) (fun k hk hk2 => o1 k (by omega)) rfl hz1
    have rm : ∀ b' z', EB (sg 1) b' → EZ (sg 2) z' → RM b' z' (cpM M1 0 (m + 1)) m := fun b' z' eb ez => ⟨RB_copy eb i1 i2 hb1, RZ_copy ez (i1 3 (by omega)) (fun k hk hk2 => i1 k (by omega)) (EB_cF eb).1 hz1⟩
    have ro : ∀ b z i, ¬ i = m → RM b z M i → RM b z (cpM M1 0 (m + 1)) i := fun b z i hi q => cpM_RM (by omega) ⟨RB_frame (fun k _ => by rw [ga1]) (fun k _ => by rw [gb1]) q.1, RZ_frame (by rw [ga1]) (fun k _ _ => by rw [ga1]) rfl q.2⟩
    have fm : Fm M (si (cpM M1 0 (m + 1)) 2 0) := by rw [← hM1]; exact ⟨rfl, rfl, rfl, rfl, rfl, rfl, rfl, rfl, rfl, rfl, rfl, rfl, rfl⟩
    have g37 : gi (cpM M1 0 (m + 1)) 37 = nI (m + 1) := by rw [← hM1]; rfl
    have rs : RS (si (si (sg 0) 15 (nI (m + 1))) 16 0) (si (cpM M1 0 (m + 1)) 2 0) := by
      obtain ⟨s1, s2, s3, s4, s5, s6⟩ := hRS
      have e15 : gi (si (si (sg 0) 15 (nI (m + 1))) 16 0) 15 = nI (m + 1) := rfl
      refine ⟨rfl, ?_, ?_, e15.trans g37.symm, ?_, ?_⟩
      · rw [← hM1]; exact s2
      · rw [← hM1]; exact s3
      · rw [e15, nI_toInt (by omega)]; omega
      · rw [e15, nI_toInt (by omega)]; omega
    have t15 : ∀ x : Rc, gi (si (si x 15 (nI (m + 1))) 16 0) 15 = nI (m + 1) := fun _ => rfl
    dsimp only [Option.bind]
    have em : (m = 0 ∨ m = 1 ∨ m = 2) := by omega
    have old : ∀ i, (i : Int) < (gi (sg 0) 15).toInt → i < m := fun i hi => by rw [m1, nI_toInt (by omega)] at hi; omega
    have has : ∀ i, i < m → (i : Int) < (gi (sg 0) 15).toInt := fun i hi => by rw [m1, nI_toInt (by omega)]; omega
    unfold fX4_keep
    rcases em with rfl | rfl | rfl
    · rw [if_pos (show nI 0 = 0 from rfl)]
      obtain ⟨b', c1, eb⟩ := copyB (sg 6) (sg 1)
      obtain ⟨z', c2, ez⟩ := copyZ (sg 7) (sg 2) (RZ_isb hz)
      rw [c1, c2]
      refine ⟨_, _, rfl, rfl, g37.symm, rel_mk hR rs rb rz ⟨fun _ => rm b' z' eb ez, fun q => ?_, fun q => ?_⟩ rfl rfl rfl rfl fm⟩
      · exact absurd (show (1 : Int) < (nI (0 + 1)).toInt from q) (by decide)
      · exact absurd (show (2 : Int) < (nI (0 + 1)).toInt from q) (by decide)
    · rw [if_neg (show ¬ nI 1 = 0 by decide), if_pos (show nI 1 = 1 from rfl)]
      obtain ⟨b', c1, eb⟩ := copyB (sg 9) (sg 1)
      obtain ⟨z', c2, ez⟩ := copyZ (sg 10) (sg 2) (RZ_isb hz)
      rw [c1, c2]
      refine ⟨_, _, rfl, rfl, g37.symm, rel_mk hR rs rb rz ⟨fun _ => ro _ _ 0 (by omega) (k1 (has 0 (by omega))), fun _ => rm b' z' eb ez, fun q => ?_⟩ rfl rfl rfl rfl fm⟩
      exact absurd (show (2 : Int) < (nI (1 + 1)).toInt from q) (by decide)
    · rw [if_neg (show ¬ nI 2 = 0 by decide), if_neg (show ¬ nI 2 = 1 by decide)]
      obtain ⟨b', c1, eb⟩ := copyB (sg 12) (sg 1)
      obtain ⟨z', c2, ez⟩ := copyZ (sg 13) (sg 2) (RZ_isb hz)
      rw [c1, c2]
      exact ⟨_, _, rfl, rfl, g37.symm, rel_mk hR rs rb rz ⟨fun _ => ro _ _ 0 (by omega) (k1 (has 0 (by omega))), fun _ => ro _ _ 1 (by omega) (k2 (has 1 (by omega))), fun _ => rm b' z' eb ez⟩ rfl rfl rfl rfl fm⟩
  · have e : m = 3 := by omega
    subst e
    rw [if_neg (show ¬ nI 3 < 3 by decide), if_pos (show nI 3 = 3 from rfl)]
    refine ⟨_, _, rfl, rfl, rfl, ?_⟩
    obtain ⟨h1, h2, h3, h4, h5, h6, h7, h8, h9, h10⟩ := hR
    exact ⟨st_eq h1 4, h2, h3, h4, h5, h6, h7, h8, h9, h10⟩
theorem b_back : BT_back Rel := by
  intro sg M hR
  obtain ⟨m, hm, m1, m2⟩ := marks_cases hR.1
  have hRS := hR.1
  obtain ⟨k1, k2, k3⟩ := hR.2.2.2.1
  unfold fX10_back fX11_back lt_
  rw [m1, m2]
  rcases Nat.eq_zero_or_pos m with h | h
  · subst h
    rw [if_pos (show nI 0 = 0 from rfl), if_pos (show nI 0 = 0 from rfl)]
    refine ⟨_, _, rfl, rfl, rfl, ?_⟩
    obtain ⟨h1, h2, h3, h4, h5, h6, h7, h8, h9, h10⟩ := hR
    exact ⟨st_eq h1 6, h2, h3, h4, h5, h6, h7, h8, h9, h10⟩
  · obtain ⟨j, rfl⟩ : ∃ j, m = j + 1 := ⟨m - 1, by omega⟩
    rw [if_neg (nI_ne0 (by omega) (by omega)), if_neg (nI_ne0 (by omega) (by omega))]
    dsimp only
    rw [nI_pred, show (0 : Int32) = nI 0 from rfl, copies_eq M (a := j + 1) (c := 0) (by omega) (by omega) (by omega)]
    dsimp only [Option.bind]
    have g37 : gi (cpM M (j + 1) 0) 37 = nI (j + 1) := m2
    rw [g37, nI_pred]
    obtain ⟨i1, i2⟩ := cpM_in M (j + 1) 0
    have has : ∀ i, i < j + 1 → (i : Int) < (gi (sg 0) 15).toInt := fun i hi => by rw [m1, nI_toInt (by omega)]; omega
    have new : ∀ b z b' z', RM b z M j → EB b b' → EZ z z' → RB b' (cpM M (j + 1) 0) 0 0 ∧ RZ z' b' (cpM M (j + 1) 0) 0 := fun b z b' z' q eb ez => ⟨RB_copy eb (fun k hk => i1 k hk) (fun k hk => i2 k hk) q.1, RZ_copy ez (i1 3 (by omega)) (fun k hk hk2 => i1 k (by omega)) (EB_cF eb).1 q.2⟩
    have fm : Fm M (si (si (cpM M (j + 1) 0) 37 (nI j)) 2 0) := ⟨rfl, rfl, rfl, rfl, rfl, rfl, rfl, rfl, rfl, rfl, rfl, rfl, rfl⟩
    have rs : RS (si (si (sg 0) 15 (nI j)) 16 0) (si (si (cpM M (j + 1) 0) 37 (nI j)) 2 0) := by
      obtain ⟨s1, s2, s3, s4, s5, s6⟩ := hRS
      have e15 : gi (si (si (sg 0) 15 (nI j)) 16 0) 15 = nI j := rfl
      refine ⟨rfl, s2, s3, rfl, ?_, ?_⟩
      · rw [e15, nI_toInt (by omega)]; omega
      · rw [e15, nI_toInt (by omega)]; omega
    have ro : ∀ b z i, RM b z M i → RM b z (cpM M (j + 1) 0) i := fun b z i q => cpM_RM (by omega) q
    have cut : ∀ i : Nat, (i : Int) < (gi (si (si (sg 0) 15 (nI j)) 16 0) 15).toInt → (i : Int) < (gi (sg 0) 15).toInt := fun i hi => by
      rw [show gi (si (si (sg 0) 15 (nI j)) 16 0) 15 = nI j from rfl, nI_toInt (by omega)] at hi
      rw [m1, nI_toInt (by omega)]; omega
    have rms : ∀ b' z' : Rc, RMs (va_up (va_up (va_up sg 0 (si (si (sg 0) 15 (nI j)) 16 0)) 1 b') 2 z') (si (si (cpM M (j + 1) 0) 37 (nI j)) 2 0) := fun b' z' => ⟨fun q => ro _ _ 0 (k1 (cut 0 q)), fun q => ro _ _ 1 (k2 (cut 1 q)), fun q => ro _ _ 2 (k3 (cut 2 q))⟩
    unfold fX4_giveBack
    have em : (j = 0 ∨ j = 1 ∨ j = 2) := by omega
    rw [show gi (si (sg 0) 15 (nI j)) 15 = nI j from rfl]
    rcases em with rfl | rfl | rfl
    · rw [if_pos (show nI 0 = nI 0 from rfl)]
      have q := k1 (has 0 (by omega))
      obtain ⟨b', c1, eb⟩ := copyB (sg 1) (sg 6)
      obtain ⟨z', c2, ez⟩ := copyZ (sg 2) (sg 7) (RZ_isb q.2)
      obtain ⟨n1, n2⟩ := new _ _ _ _ q eb ez
      rw [c1, c2]
      exact ⟨_, _, rfl, rfl, rfl, rel_mk hR rs n1 n2 (rms b' z') rfl rfl rfl rfl fm⟩
    · rw [if_neg (show ¬ nI 1 = nI 0 by decide), if_pos (show nI 1 = 1 from rfl)]
      have q := k2 (has 1 (by omega))
      obtain ⟨b', c1, eb⟩ := copyB (sg 1) (sg 9)
      obtain ⟨z', c2, ez⟩ := copyZ (sg 2) (sg 10) (RZ_isb q.2)
      obtain ⟨n1, n2⟩ := new _ _ _ _ q eb ez
      rw [c1, c2]
      exact ⟨_, _, rfl, rfl, rfl, rel_mk hR rs n1 n2 (rms b' z') rfl rfl rfl rfl fm⟩
    · rw [if_neg (show ¬ nI 2 = nI 0 by decide), if_neg (show ¬ nI 2 = 1 by decide)]
      have q := k3 (has 2 (by omega))
      obtain ⟨b', c1, eb⟩ := copyB (sg 1) (sg 12)
      obtain ⟨z', c2, ez⟩ := copyZ (sg 2) (sg 13) (RZ_isb q.2)
      obtain ⟨n1, n2⟩ := new _ _ _ _ q eb ez
      rw [c1, c2]
      exact ⟨_, _, rfl, rfl, rfl, rel_mk hR rs n1 n2 (rms b' z') rfl rfl rfl rfl fm⟩
