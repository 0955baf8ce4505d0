/-! ===== (B) a season's text: a step, whole ===== -/
/-- how a line ends, on both sides -/
def LN (t : Nat → Int32) (N e : Nat) (tk M : Rc) (F n : Nat) (c : Option ((Int32 × Int32 × Rc × Rc × Rc) ⊕ (Int32 × Rc × Rc × Rc))) (m : Option (Int32 × Rc)) : Prop := ∃ (st' tk' z' M' : Rc), FK tk tk' ∧ FS M M' ∧ ((c = some (.inl ((1 : Int32), nI (n + 1), st', tk', z')) ∧ m = some ((1 : Int32), M') ∧ (∃ e', (gi M' 12 = 0 ∨ e < e') ∧ G t N e' tk' M') ∧ ∃ c' dp' s', SI z' st' M' F (n + 1) c' dp' s') ∨ (c = some (.inl ((0 : Int32), nI (n + 1), st', tk', z')) ∧ ((m = some ((0 : Int32), M') ∧ X_ tk' M') ∨ (m = some ((1 : Int32), M') ∧ Y_ tk' M'))))
theorem tail_1 {M M3 : Rc} {y1 R : Int32} (h : ¬ y1 = 25) (e : fX11_seasonOrder y1 R M = some ((1 : Int32), M3)) (y2 y4 : Int32) {dp : Nat} (h22 : gi M3 22 = nI dp) (hd : y4 = 0 ∨ dp < 3) : ∃ M4, RT2 y1 y2 R y4 M = fX11_wantSign 59 M4 ∧ FS M3 M4 ∧ (∀ j, 11 ≤ j → j ≤ 18 → gi M4 j = gi M3 j) ∧ ga M4 0 = ga M3 0 ∧ ga M4 9 = ga M3 9 ∧ gi M4 23 = gi M3 23 ∧ ((y4 = 0 ∧ gi M4 22 = nI dp ∧ ga M4 21 = ga M3 21) ∨ (¬ y4 = 0 ∧ gi M4 22 = nI (dp + 1) ∧ ga M4 21 = upd (ga M3 21) dp y2)) := by
  unfold RT2
  rw [e, bs]
  dsimp only
  rw [i10]
  by_cases c : y4 = 0
  · rw [if_pos c, J228_eq h]
    exact ⟨M3, rfl, FS_refl _, fun _ _ _ => rfl, rfl, rfl, rfl, Or.inl ⟨c, h22, rfl⟩⟩
  · have hd3 : dp < 3 := by
      rcases hd with z | z
      · exact absurd z c
      · exact z
    rw [if_neg c, h22, gd_pos (inbn hd3 (by decide)), J228_eq h]
    refine ⟨psh M3 y2, rfl, FS_psh _ _, fun j j1 j2 => by unfold psh; rw [gi_si, if_neg (by omega)]; rfl, rfl, rfl, rfl, Or.inr ⟨c, ?_, ?_⟩⟩
    · show gi M3 22 + 1 = _
      rw [h22, nI_1]
    · show upd (ga M3 21) (gi M3 22).toNatClampNeg y2 = _
      rw [h22, nI_clamp (by omega)]
/-- a draft with room -/
theorem has_room {z : Rc} {n : Nat} (h5 : gi z 5 = nI n) (hn : n < 60) : fX5_hasRoom z = 1 := by
  unfold fX5_hasRoom
  rw [h5, if_neg (show ¬ (60 : Int32) ≤ nI n from nI_ge (b := 60) hn (by decide))]
theorem step_not : ∀ i, i < 30 → (¬ fX6_isStep (nI i) = 1 ∨ (¬ nI (rk i) = 25 ∧ ¬ nI i = 24 ∧ ¬ nI i = 25 ∧ ¬ nI i = 26)) := by
  unfold fX6_isStep
  decide +kernel
theorem step_line {t : Nat → Int32} {N e : Nat} {st tk z M b st' : Rc} {F n c dp i : Nat} {s : Nat → Nat} {y4 : Int32} (h : G t N e tk M) (hI : SI z st M F n c dp s) (hc : c < 30) (hi : i < 30) (hs : fX6_isStep (nI i) = 1) (hF : F ≤ 8) (h8 : gi b 8 = nI F) (hN : NM b M F 0) (h0 : ga M 0 0 = nI F) (h5 : gi st' 5 = nI n) (hy : (y4 = 0 ∧ ¬ i = 23 ∧ ¬ i = 27 ∧ gi st' 4 = nI dp ∧ ∀ k, k < dp → ga st' 3 k = ga st 3 k) ∨ (y4 = 1 ∧ (i = 23 ∨ i = 27) ∧ dp < 3 ∧ gi st' 4 = nI (dp + 1) ∧ (∀ k, k < dp → ga st' 3 k = ga st 3 k) ∧ ga st' 3 dp = nI n)) : LN t N e tk M F n ((fX6_readStep_J120 tk z (nI i) st').bind (fun r20 => if r20.1 = (0 : Int32) then fX6_isRead_J87 ((1 : Int32), nI n, st, tk, z) r20.2.1 r20.2.2.1 r20.2.2.2 else (fX6_readRest r20.2.1 r20.2.2.1 r20.2.2.2 b).bind (fun r23 => if r23.1 = (0 : Int32) then fX6_isRead_J87 ((1 : Int32), nI n, st, tk, z) r20.2.1 r23.2.1 r23.2.2 else (fX6_keepRest r20.2.1 r23.2.1 r23.2.2).bind (fun r26 => if r26.1 = (0 : Int32) then fX6_isRead_J87 ((1 : Int32), nI n, st, tk, z) r20.2.1 r23.2.1 r26.2 else fX6_isRead_J88 ((1 : Int32), nI n, st, tk, z) (1 : Int32) r20.2.1 r23.2.1 r26.2)))) (fX11_seasonStep_J139 M (nI (rk i)) (nI n) (nI (4830 + 6 * n)) y4 (1 : Int32) (gi M 23)) := by
  obtain ⟨⟨a5, a6, a63, a23, a4, a22, l1, l2, l3⟩, -⟩ := id hI
  have hn : n < 60 := by omega
  have hR : 4160 ≤ 4830 + 6 * n := by omega
  have hR2 : 4830 + 6 * n + 6 ≤ 6240 := by omega
  obtain ⟨n25, n24, n25', n26⟩ : ¬ nI (rk i) = 25 ∧ ¬ nI i = 24 ∧ ¬ nI i = 25 ∧ ¬ nI i = 26 := by
    rcases step_not i hi with q | q
    · exact absurd hs q
    · exact q
  have hd : y4 = 0 ∨ dp < 3 := by
    rcases hy with ⟨q, -⟩ | ⟨-, -, q, -⟩
    · exact Or.inl q
    · exact Or.inr q
  have eJ : fX6_readStep_J120 tk z (nI i) st' = (fX8_advance tk).bind (fun r5 => some (r5.1, st', r5.2, si (si (sa z 0 (upd (ga z 0) n (nI i))) 5 (nI (n + 1))) 6 (nI (c + 1)))) := by
    unfold fX6_readStep_J120 lt_
    rw [h5, gd_pos (inbn hn (by decide)), nI_clamp (by omega)]
    show (fX8_advance tk).bind (fun r5 => some (r5.1, st', r5.2, si (si (sa z 0 (upd (ga z 0) n (nI i))) 5 (gi z 5 + 1)) 6 (gi z 6 + 1))) = _
    rw [a5, a6, nI_1, nI_1]
  obtain ⟨g, eM, hg⟩ := pre_eq M hn a63 (nI (rk i)) (nI n) y4 1 (gi M 23)
  have eM : fX11_seasonStep_J139 M (nI (rk i)) (nI n) (nI (4830 + 6 * n)) y4 1 (gi M 23) = (fX11_ahead (sa (si M 23 (gi M 23 + 1)) 0 g)).bind (fun r20 => RT2 (nI (rk i)) (nI n) (nI (4830 + 6 * n)) y4 r20) := eM
  have gR : g (4830 + 6 * n) = nI (rk i) := by rw [hg, if_pos rfl]
  have g63 : g 4163 = nI (n + 1) := by rw [hg, if_neg (by omega), if_neg (by omega), if_pos rfl]
  have glt : ∀ k, (k < 4160 ∨ (4830 ≤ k ∧ k < 4830 + 6 * n)) → g k = ga M 0 k := fun k hk => by rw [hg, if_neg (by omega), if_neg (by omega), if_neg (by omega)]
  generalize ez : si (si (sa z 0 (upd (ga z 0) n (nI i))) 5 (nI (n + 1))) 6 (nI (c + 1)) = z1 at *
  have z10 : ga z1 0 = upd (ga z 0) n (nI i) := by rw [← ez]; rfl
  have z1r : ga z1 1 = ga z 1 ∧ ga z1 2 = ga z 2 ∧ ga z1 3 = ga z 3 ∧ ga z1 4 = ga z 4 := by rw [← ez]; exact ⟨rfl, rfl, rfl, rfl⟩
  have z15 : gi z1 5 = nI (n + 1) := by rw [← ez]; rfl
  have z16 : gi z1 6 = nI (c + 1) := by rw [← ez]; rfl
  have m23 : gi (sa (si M 23 (gi M 23 + 1)) 0 g) 23 = nI (c + 1) := by
    show gi M 23 + 1 = _
    rw [a23, nI_1]
  have m22 : gi (sa (si M 23 (gi M 23 + 1)) 0 g) 22 = nI dp := a22
  have m0 : ga (sa (si M 23 (gi M 23 + 1)) 0 g) 0 = g := ga_sa0 _ _ _
  have m21 : ga (sa (si M 23 (gi M 23 + 1)) 0 g) 21 = ga M 21 := rfl
  have hG0 : G t N e tk (sa (si M 23 (gi M 23 + 1)) 0 g) := G_M h (fun j j1 j2 => by show gi (si M 23 _) j = _; rw [gi_si, if_neg (by omega)]) rfl
  have fs0 : FS M (sa (si M 23 (gi M 23 + 1)) 0 g) := FS_trans (FS_si M (by omega) _) (FS_s0 _ g (fun k hk => glt k (Or.inl hk)))
  generalize sa (si M 23 (gi M 23 + 1)) 0 g = M1 at *
  obtain ⟨tk1, M2, m1, fa, fk, ⟨q1, fc, e1, he1, -, hG1⟩ | ⟨q1, hY⟩⟩ := adv_G hG0
  · have hz : ga z1 0 n = nI i := by rw [z10, upd_eq]
    have hM2 : ga M2 0 (4830 + 6 * n) = nI (rk i) := by rw [FA_ga fa, m0, gR]
    have fs2 : FS M M2 := FS_trans fs0 (FS_FA fa)
    have hN2 : NM b M2 F 0 := fun f hf => by
      obtain ⟨u, u1, u2, u3⟩ := hN f hf
      exact ⟨u, u1, u2, (fs2.2.2.2.2.2 _ (by omega)).trans u3⟩
    have h02 : ga M2 0 0 = nI F := (fs2.2.2.2.2.1 0 (by omega)).trans h0
    have m22' : gi M2 22 = nI dp := (fa.2 22 (by omega)).trans m22
    rcases ord_all hG1 hi hn h5 hz hs hM2 hF h8 hN2 h02 hR hR2 with ⟨tk', M3, κ, σ, c1, m3, fk3, fo, ⟨e2, he2, hG2⟩, hS⟩ | ⟨tk', M3, z', c1, fk3, fp3, hh⟩
    · have m322 : gi M3 22 = nI dp := (fo.1 22 (by omega)).trans m22'
      obtain ⟨M4, t1, t2, t3, t4, t5, t6, t7⟩ := tail_1 n25 m3 (nI n) y4 m322 hd
      have hG4 : G t N e2 tk' M4 := G_M hG2 t3 t5
      have kd := rest_kind hn h5 c1
      have eK : fX6_keepRest st' tk' (zk z1 n κ σ) = some ((1 : Int32), sa (sa (zk z1 n κ σ) 3 (upd (ga z1 3) n (gi tk' 10))) 1 (upd (ga z1 1) n (gi tk' 11))) := by
        unfold fX6_keepRest lt_
        rw [h5, gd_pos (inbn hn (by decide)), nI_clamp (by omega)]
        rfl
      have k0 : ga (sa (sa (zk z1 n κ σ) 3 (upd (ga z1 3) n (gi tk' 10))) 1 (upd (ga z1 1) n (gi tk' 11))) 0 = upd (ga z1 0) n κ := rfl
      have k1 : ga (sa (sa (zk z1 n κ σ) 3 (upd (ga z1 3) n (gi tk' 10))) 1 (upd (ga z1 1) n (gi tk' 11))) 1 = upd (ga z1 1) n (gi tk' 11) := rfl
      have k2 : ga (sa (sa (zk z1 n κ σ) 3 (upd (ga z1 3) n (gi tk' 10))) 1 (upd (ga z1 1) n (gi tk' 11))) 2 = upd (ga z1 2) n σ := rfl
      have k3 : ga (sa (sa (zk z1 n κ σ) 3 (upd (ga z1 3) n (gi tk' 10))) 1 (upd (ga z1 1) n (gi tk' 11))) 3 = upd (ga z1 3) n (gi tk' 10) := rfl
      have k4 : ga (sa (sa (zk z1 n κ σ) 3 (upd (ga z1 3) n (gi tk' 10))) 1 (upd (ga z1 1) n (gi tk' 11))) 4 = ga z1 4 := rfl
      have k5 : gi (sa (sa (zk z1 n κ σ) 3 (upd (ga z1 3) n (gi tk' 10))) 1 (upd (ga z1 1) n (gi tk' 11))) 5 = gi z1 5 := rfl
      have k6 : gi (sa (sa (zk z1 n κ σ) 3 (upd (ga z1 3) n (gi tk' 10))) 1 (upd (ga z1 1) n (gi tk' 11))) 6 = gi z1 6 := rfl
      have hop : opn (zk z1 n κ σ) n ↔ opn (sa (sa (zk z1 n κ σ) 3 (upd (ga z1 3) n (gi tk' 10))) 1 (upd (ga z1 1) n (gi tk' 11))) n := Iff.rfl
      generalize sa (sa (zk z1 n κ σ) 3 (upd (ga z1 3) n (gi tk' 10))) 1 (upd (ga z1 1) n (gi tk' 11)) = z3 at *
      have eC : ∀ o, o = fX8_passSign 59 tk' → ((fX6_readStep_J120 tk z (nI i) st').bind (fun r20 => if r20.1 = (0 : Int32) then fX6_isRead_J87 ((1 : Int32), nI n, st, tk, z) r20.2.1 r20.2.2.1 r20.2.2.2 else (fX6_readRest r20.2.1 r20.2.2.1 r20.2.2.2 b).bind (fun r23 => if r23.1 = (0 : Int32) then fX6_isRead_J87 ((1 : Int32), nI n, st, tk, z) r20.2.1 r23.2.1 r23.2.2 else (fX6_keepRest r20.2.1 r23.2.1 r23.2.2).bind (fun r26 => if r26.1 = (0 : Int32) then fX6_isRead_J87 ((1 : Int32), nI n, st, tk, z) r20.2.1 r23.2.1 r26.2 else fX6_isRead_J88 ((1 : Int32), nI n, st, tk, z) (1 : Int32) r20.2.1 r23.2.1 r26.2)))) = o.bind (fun r12 => if r12.1 = (0 : Int32) then some (.inl ((0 : Int32), (nI n + (1 : Int32)), st', r12.2, z3)) else some (.inl ((1 : Int32), (nI n + (1 : Int32)), st', r12.2, z3))) := fun o ho => by
        rw [eJ, q1, bs, bs]
        dsimp only
        rw [i10, c1, bs]
        dsimp only
        rw [i10, eK, bs]
        dsimp only
        rw [i10]
        unfold fX6_isRead_J88
        rw [i10, ho]
      rw [eC _ rfl, eM, m1, bs, t1]
      have fs4 : FS M M4 := FS_trans fs2 (FS_trans (FS_FO hR fo) t2)
      rcases sign_G hG4 59 with ⟨tk2, M5, s1, s2, fc5, fa5, e5, he5, hs5, hG5⟩ | ⟨tk2, M5, s1, fk5, fp5, ⟨s2, hY⟩ | ⟨s2, hX⟩⟩
      · rw [s1, s2, bs]
        dsimp only
        rw [i10, nI_1]
        have c0 : ∀ k, (k < 4830 + 6 * n ∨ 4830 + 6 * n + 6 ≤ k) → ga M5 0 k = g k := fun k hk => by
          rw [FA_ga fa5, t4, fo.2.2.2.2 k (by omega), FA_ga fa, m0]
        have hS5 : SC_ (ga z3 0 n) (ga z3 2 n) (ga z3 3 n) (ga z3 1 n) M5 (4830 + 6 * n) F := by
          rw [k0, k1, k2, k3, upd_eq, upd_eq, upd_eq, upd_eq]
          exact SC_cells (fun j hj => by rw [FA_ga fa5, t4]) hS
        have rr : ∀ k, k < n → ga z3 0 k = ga z 0 k ∧ ga z3 1 k = ga z 1 k ∧ ga z3 2 k = ga z 2 k ∧ ga z3 3 k = ga z 3 k ∧ ga z3 4 k = ga z 4 k := fun k hk => by
          obtain ⟨w1, w2, w3, w4⟩ := z1r
          rw [k0, k1, k2, k3, k4, z10, w1, w2, w3, w4, upd_ne _ _ (by omega), upd_ne _ _ (by omega), upd_ne _ _ (by omega), upd_ne _ _ (by omega), upd_ne _ _ (by omega)]
          exact ⟨rfl, rfl, rfl, rfl, rfl⟩
        have e23 : gi M5 23 = nI (c + 1) := by rw [fa5.2 23 (by omega), t6, fo.1 23 (by omega), fa.2 23 (by omega), m23]
        have e63 : ga M5 0 4163 = nI (n + 1) := by rw [c0 _ (by omega), g63]
        have hMk : ∀ k, 4830 ≤ k → k < 4830 + 6 * n → ga M5 0 k = ga M 0 k := fun k k1 k2 => by rw [c0 _ (by omega), glt k (Or.inr ⟨k1, k2⟩)]
        have e21 : ga M3 21 = ga M 21 := by rw [fo.2.2.1 21 (by omega), FA_ga fa, m21]
        refine ⟨st', tk2, z3, M5, FK_trans fk (FK_trans fk3 (FC_FK fc5)), FS_trans fs4 (FS_FA fa5), Or.inl ⟨rfl, rfl, ⟨e5, ?_, hG5⟩, ?_⟩⟩
        · rcases hs5 with w | w
          · exact Or.inl w
          · exact Or.inr (by omega)
        · rcases hy with ⟨y0, i23, i27, f4, f3⟩ | ⟨y0, i2, d3, f4, f3, f3n⟩
          · rcases t7 with ⟨-, t7, t8⟩ | ⟨t7, -⟩
            · refine ⟨c + 1, dp, s, SI_step hI hc (k5.trans z15) (k6.trans z16) e63 e23 rr hMk hS5 (fun q => ?_) f4 ((fa5.2 22 (by omega)).trans t7) (fun k hk => ⟨f3 k hk, by rw [FA_ga fa5, t8, e21]⟩)⟩
              have q2 := hop.2 q
              rcases kd with ⟨kd, -⟩ | ⟨-, kd⟩
              · rw [hz] at kd
                exact i23 ((nI_eq (by omega) (by omega)).1 kd)
              · rw [kd] at q2
                unfold opn at q2
                rw [hz] at q2
                rcases q2 with q2 | q2 | q2 | q2
                · exact n24 q2
                · exact n25' q2
                · exact n26 q2
                · exact i27 ((nI_eq (by omega) (by omega)).1 q2)
            · exact absurd y0 t7
          · rcases t7 with ⟨t7, -⟩ | ⟨-, t7, t8⟩
            · rw [y0] at t7; exact absurd t7 (by decide)
            · refine ⟨c + 1, dp + 1, _, SI_open hI hc d3 (k5.trans z15) (k6.trans z16) e63 e23 rr hMk hS5 (hop.1 ?_) f4 ((fa5.2 22 (by omega)).trans t7) (fun k hk => ⟨f3 k hk, by rw [FA_ga fa5, t8, e21, upd_ne _ _ (by omega)]⟩) ⟨f3n, by rw [FA_ga fa5, t8, upd_eq]⟩⟩
              rcases kd with ⟨-, kd⟩ | ⟨kd, kd2⟩
              · exact kd
              · rcases i2 with i2 | i2
                · rw [hz, i2] at kd; exact absurd rfl kd
                · rw [kd2]
                  refine Or.inr (Or.inr (Or.inr ?_))
                  rw [hz, i2]; rfl
      · rw [s1, s2, bs]
        dsimp only
        rw [i00, nI_1]
        exact ⟨st', tk2, z3, M5, FK_trans fk (FK_trans fk3 fk5), FS_trans fs4 (FS_FP fp5), Or.inr ⟨rfl, Or.inr ⟨rfl, hY⟩⟩⟩
      · rw [s1, s2, bs]
        dsimp only
        rw [i00, nI_1]
        exact ⟨st', tk2, z3, M5, FK_trans fk (FK_trans fk3 fk5), FS_trans fs4 (FS_FP fp5), Or.inr ⟨rfl, Or.inl ⟨rfl, hX⟩⟩⟩
    · have eC : ((fX6_readStep_J120 tk z (nI i) st').bind (fun r20 => if r20.1 = (0 : Int32) then fX6_isRead_J87 ((1 : Int32), nI n, st, tk, z) r20.2.1 r20.2.2.1 r20.2.2.2 else (fX6_readRest r20.2.1 r20.2.2.1 r20.2.2.2 b).bind (fun r23 => if r23.1 = (0 : Int32) then fX6_isRead_J87 ((1 : Int32), nI n, st, tk, z) r20.2.1 r23.2.1 r23.2.2 else (fX6_keepRest r20.2.1 r23.2.1 r23.2.2).bind (fun r26 => if r26.1 = (0 : Int32) then fX6_isRead_J87 ((1 : Int32), nI n, st, tk, z) r20.2.1 r23.2.1 r26.2 else fX6_isRead_J88 ((1 : Int32), nI n, st, tk, z) (1 : Int32) r20.2.1 r23.2.1 r26.2)))) = some (.inl ((0 : Int32), nI (n + 1), st', tk', z')) := by
        rw [eJ, q1, bs, bs]
        dsimp only
        rw [i10, c1, bs]
        dsimp only
        rw [i00]
        rw [← nI_1]
        rfl
      rw [eC, eM, m1, bs]
      have m322 : gi M3 22 = nI dp := (fp3.1 22 (by omega) (by omega) (by omega) (by omega)).trans m22'
      rcases hh with ⟨m3, hY⟩ | ⟨m3, hX⟩
      · obtain ⟨M4, t1, t2, t3, -⟩ := tail_1 n25 m3 (nI n) y4 m322 hd
        obtain ⟨M5, s1, s2, s3⟩ := sign_Y (Y_M hY (fun j j1 j2 => t3 j (by omega) j2)) 59
        rw [t1, s1]
        exact ⟨st', tk', z', M5, FK_trans fk fk3, FS_trans fs2 (FS_trans (FS_FP fp3) (FS_trans t2 (FS_FP s2))), Or.inr ⟨rfl, Or.inl ⟨rfl, s3⟩⟩⟩
      · have e0 : RT2 (nI (rk i)) (nI n) (nI (4830 + 6 * n)) y4 M2 = some ((0 : Int32), M3) := by
          unfold RT2
          rw [m3]; rfl
        rw [e0]
        exact ⟨st', tk', z', M3, FK_trans fk fk3, FS_trans fs2 (FS_FP fp3), Or.inr ⟨rfl, Or.inl ⟨rfl, hX⟩⟩⟩
  · have eC : ((fX6_readStep_J120 tk z (nI i) st').bind (fun r20 => if r20.1 = (0 : Int32) then fX6_isRead_J87 ((1 : Int32), nI n, st, tk, z) r20.2.1 r20.2.2.1 r20.2.2.2 else (fX6_readRest r20.2.1 r20.2.2.1 r20.2.2.2 b).bind (fun r23 => if r23.1 = (0 : Int32) then fX6_isRead_J87 ((1 : Int32), nI n, st, tk, z) r20.2.1 r23.2.1 r23.2.2 else (fX6_keepRest r20.2.1 r23.2.1 r23.2.2).bind (fun r26 => if r26.1 = (0 : Int32) then fX6_isRead_J87 ((1 : Int32), nI n, st, tk, z) r20.2.1 r23.2.1 r26.2 else fX6_isRead_J88 ((1 : Int32), nI n, st, tk, z) (1 : Int32) r20.2.1 r23.2.1 r26.2)))) = some (.inl ((0 : Int32), nI (n + 1), st', tk1, z1)) := by
      rw [eJ, q1, bs, bs]
      dsimp only
      rw [i00]
      rw [← nI_1]
      rfl
    obtain ⟨M', w1, w2, w3⟩ := tail_Y hY n25 (nI n) (nI (4830 + 6 * n)) y4 (dp := dp) ((fa.2 22 (by omega)).trans m22) hd
    rw [eC, eM, m1, bs, w1]
    exact ⟨st', tk1, z1, M', fk, FS_trans fs0 (FS_trans (FS_FA fa) w2), Or.inr ⟨rfl, Or.inl ⟨rfl, w3⟩⟩⟩
