/-! ===== (B) a season's text: an end; any line ===== -/
theorem order_25 (R : Int32) (M : Rc) : fX11_seasonOrder 25 R M = some ((1 : Int32), M) := by
  unfold fX11_seasonOrder
  rw [if_neg (by decide), if_neg (by decide), if_neg (by decide), if_neg (by decide), if_neg (by decide), if_neg (by decide), if_neg (by decide)]
/-- the reference puts down an end -/
theorem tail_25 {M : Rc} {n d x : Nat} (hn : n < 60) (hd : d < 3) (hx : x < 60) (h22 : gi M 22 = nI (d + 1)) (h21 : ga M 21 d = nI x) : RT2 25 (nI n) (nI (4830 + 6 * n)) 0 M = fX11_wantSign 59 (sa (si M 22 (nI d)) 0 (upd (upd (ga M 0) (4830 + 6 * n + 4) (nI x)) (4830 + 6 * x + 4) (nI n))) := by
  have r4 : nI (4830 + 6 * n) + 4 = nI (4830 + 6 * n + 4) := by rw [show (4 : Int32) = nI 4 from rfl, nI_add]
  have x4 : (4830 : Int32) + (6 : Int32) * nI x + 4 = nI (4830 + 6 * x + 4) := by rw [show (4 : Int32) = nI 4 from rfl, show (6 : Int32) = nI 6 from rfl, show (4830 : Int32) = nI 4830 from rfl, nI_mul, nI_add, nI_add]
  unfold RT2
  rw [order_25, bs]
  dsimp only
  rw [i10, i00]
  unfold fX11_seasonStep_J228 lt_
  rw [if_pos rfl, h22, nI_pred]
  have e1 : gi (si M 22 (nI d)) 22 = nI d := rfl
  have e2 : ga (si M 22 (nI d)) 21 d = nI x := h21
  have e3 : ga (si M 22 (nI d)) 0 = ga M 0 := rfl
  generalize si M 22 (nI d) = M1 at *
  dsimp only
  rw [e1, gd_pos (inbn hd (by decide)), r4, gd_pos (inbn (by omega) (by decide)), nI_clamp (by omega), nI_clamp (by omega), e2, e3]
  rw [show gi (sa M1 0 (upd (ga M 0) (4830 + 6 * n + 4) (nI x))) 22 = nI d from e1, gd_pos (inbn hd (by decide)), nI_clamp (by omega), show ga (sa M1 0 (upd (ga M 0) (4830 + 6 * n + 4) (nI x))) 21 d = nI x from e2, x4, gd_pos (inbn (by omega) (by decide)), nI_clamp (by omega), ga_sa0, sa_sa]
  cases fX11_wantSign 59 (sa M1 0 (upd (upd (ga M 0) (4830 + 6 * n + 4) (nI x)) (4830 + 6 * x + 4) (nI n))) <;> rfl
theorem end_line {t : Nat → Int32} {N e : Nat} {st tk z M : Rc} {F n c dp : Nat} {s : Nat → Nat} (h : G t N e tk M) (hI : SI z st M F n c dp s) : LN t N e tk M F n ((fX6_readEnd st tk z).bind (fun r29 => fX6_isRead_J88 ((1 : Int32), nI n, st, tk, z) r29.1 r29.2.1 r29.2.2.1 r29.2.2.2)) (fX11_seasonStep_J42 M 25 (nI n) (nI (4830 + 6 * n)) 0) := by
  obtain ⟨⟨a5, a6, a63, a23, a4, a22, l1, l2, l3⟩, hst, hinc, -⟩ := id hI
  unfold fX11_seasonStep_J42
  rw [if_neg (by decide), if_neg (by decide), if_neg (by decide), if_pos rfl, a22]
  cases dp with
  | zero =>
    rw [show nI 0 = 0 from rfl, i00]
    obtain ⟨tk', M', q1, q2, q3, q4, q5⟩ := fail_G h (k := 2) (by decide) (by decide)
    unfold fX6_readEnd lt_
    rw [a4, if_pos (show nI 0 = 0 from rfl)]
    rw [show fX8_fail 2 tk = _ from q1, show fX11_fails 2 M = _ from q2, bs]
    refine ⟨st, tk', z, M', q3, FS_FP q4, Or.inr ⟨?_, Or.inl ⟨rfl, q5⟩⟩⟩
    rw [← nI_1]
    rfl
  | succ d =>
    have hn : n < 60 := by omega
    have hd3 : d < 3 := by omega
    obtain ⟨b1, b2, b3, b4⟩ := hst d (by omega)
    rw [if_neg (nI_ne0 (by omega) (by omega))]
    have eM0 : fX11_seasonStep_J81 M 25 (nI n) (nI (4830 + 6 * n)) 0 = fX11_seasonStep_J139 M 25 (nI n) (nI (4830 + 6 * n)) 0 0 (gi M 23) := by
      unfold fX11_seasonStep_J81 fX11_seasonStep_J103 fX11_seasonStep_J123
      rw [if_pos rfl, if_pos rfl, if_pos rfl]
    obtain ⟨g, eM, hg⟩ := pre_eq M hn a63 25 (nI n) 0 0 (gi M 23)
    have eM : fX11_seasonStep_J139 M 25 (nI n) (nI (4830 + 6 * n)) 0 0 (gi M 23) = (fX11_ahead (sa (si M 23 (gi M 23 + 0)) 0 g)).bind (fun r20 => RT2 25 (nI n) (nI (4830 + 6 * n)) 0 r20) := eM
    have g63 : g 4163 = nI (n + 1) := by rw [hg, if_neg (by omega), if_neg (by omega), if_pos rfl]
    have gR : g (4830 + 6 * n) = 25 := by rw [hg, if_pos rfl]
    have glt : ∀ k, (k < 4160 ∨ (4830 ≤ k ∧ k < 4830 + 6 * n)) → g k = ga M 0 k := fun k hk => by rw [hg, if_neg (by omega), if_neg (by omega), if_neg (by omega)]
    rw [eM0, eM]
    have m23 : gi (sa (si M 23 (gi M 23 + 0)) 0 g) 23 = nI c := by
      show gi M 23 + 0 = _
      rw [a23, show (0 : Int32) = nI 0 from rfl, nI_add, Nat.add_zero]
    have m22 : gi (sa (si M 23 (gi M 23 + 0)) 0 g) 22 = nI (d + 1) := a22
    have m0 : ga (sa (si M 23 (gi M 23 + 0)) 0 g) 0 = g := ga_sa0 _ _ _
    have m21 : ga (sa (si M 23 (gi M 23 + 0)) 0 g) 21 = ga M 21 := rfl
    have hG0 : G t N e tk (sa (si M 23 (gi M 23 + 0)) 0 g) := G_M h (fun j j1 j2 => by show gi (si M 23 _) j = _; rw [gi_si, if_neg (by omega)]) rfl
    have fs0 : FS M (sa (si M 23 (gi M 23 + 0)) 0 g) := FS_trans (FS_si M (by omega) _) (FS_s0 _ g (fun k hk => glt k (Or.inl hk)))
    generalize sa (si M 23 (gi M 23 + 0)) 0 g = M1 at *
    -- the class
    have eJ : fX6_readEnd st tk z = (fX8_advance tk).bind (fun r11 => some (r11.1, si (si st 4 (nI d)) 5 (nI n), r11.2, si (sa (sa z 0 (upd (ga z 0) n 28)) 4 (upd (upd (ga z 4) n (nI (s d))) (s d) (nI n))) 5 (nI (n + 1)))) := by
      unfold fX6_readEnd lt_
      rw [a4, if_neg (nI_ne0 (by omega) (by omega)), has_room a5 hn, if_neg (by decide), nI_pred, a5]
      dsimp only
      have u1 : gi (si (si st 4 (nI d)) 5 (nI n)) 5 = nI n := rfl
      have u2 : gi (si (si st 4 (nI d)) 5 (nI n)) 4 = nI d := rfl
      have u3 : ga (si (si st 4 (nI d)) 5 (nI n)) 3 d = nI (s d) := b1
      generalize si (si st 4 (nI d)) 5 (nI n) = st1 at *
      rw [u1, u2, gd_pos (inbn hn (by decide)), gd_pos (inbn hd3 (by decide)), nI_clamp (by omega), nI_clamp (by omega), u3, gd_pos (inbn (by omega) (by decide)), nI_clamp (by omega), ga_sa0, sa_sa]
      show (fX8_advance tk).bind (fun r11 => some (r11.1, st1, r11.2, si (sa (sa z 0 (upd (ga z 0) n 28)) 4 (upd (upd (ga z 4) n (nI (s d))) (s d) (nI n))) 5 (gi z 5 + 1))) = _
      rw [a5, nI_1]
    have v3 : ga (si (si st 4 (nI d)) 5 (nI n)) 3 = ga st 3 := rfl
    have v4 : gi (si (si st 4 (nI d)) 5 (nI n)) 4 = nI d := rfl
    generalize si (si st 4 (nI d)) 5 (nI n) = st1 at *
    have w0 : ga (si (sa (sa z 0 (upd (ga z 0) n 28)) 4 (upd (upd (ga z 4) n (nI (s d))) (s d) (nI n))) 5 (nI (n + 1))) 0 = upd (ga z 0) n 28 := rfl
    have w4 : ga (si (sa (sa z 0 (upd (ga z 0) n 28)) 4 (upd (upd (ga z 4) n (nI (s d))) (s d) (nI n))) 5 (nI (n + 1))) 4 = upd (upd (ga z 4) n (nI (s d))) (s d) (nI n) := rfl
    have wr : ga (si (sa (sa z 0 (upd (ga z 0) n 28)) 4 (upd (upd (ga z 4) n (nI (s d))) (s d) (nI n))) 5 (nI (n + 1))) 1 = ga z 1 ∧ ga (si (sa (sa z 0 (upd (ga z 0) n 28)) 4 (upd (upd (ga z 4) n (nI (s d))) (s d) (nI n))) 5 (nI (n + 1))) 2 = ga z 2 ∧ ga (si (sa (sa z 0 (upd (ga z 0) n 28)) 4 (upd (upd (ga z 4) n (nI (s d))) (s d) (nI n))) 5 (nI (n + 1))) 3 = ga z 3 := ⟨rfl, rfl, rfl⟩
    have w5 : gi (si (sa (sa z 0 (upd (ga z 0) n 28)) 4 (upd (upd (ga z 4) n (nI (s d))) (s d) (nI n))) 5 (nI (n + 1))) 5 = nI (n + 1) := rfl
    have w6 : gi (si (sa (sa z 0 (upd (ga z 0) n 28)) 4 (upd (upd (ga z 4) n (nI (s d))) (s d) (nI n))) 5 (nI (n + 1))) 6 = nI c := a6
    generalize si (sa (sa z 0 (upd (ga z 0) n 28)) 4 (upd (upd (ga z 4) n (nI (s d))) (s d) (nI n))) 5 (nI (n + 1)) = z1 at *
    obtain ⟨tk1, M2, m1, fa, fk, ⟨q1, fc, e1, he1, -, hG1⟩ | ⟨q1, hY⟩⟩ := adv_G hG0
    · have e22 : gi M2 22 = nI (d + 1) := (fa.2 22 (by omega)).trans m22
      have e21 : ga M2 21 = ga M 21 := (FA_ga fa 21).trans m21
      rw [eJ, q1, bs, bs, m1, bs, tail_25 hn hd3 (show s d < 60 by omega) e22 (by rw [e21]; exact b2)]
      have fs2 : FS M M2 := FS_trans fs0 (FS_FA fa)
      have c0 : ga M2 0 = g := (FA_ga fa 0).trans m0
      rw [c0]
      have hG3 : G t N e1 tk1 (sa (si M2 22 (nI d)) 0 (upd (upd g (4830 + 6 * n + 4) (nI (s d))) (4830 + 6 * s d + 4) (nI n))) := G_M hG1 (fun j j1 j2 => by show gi (si M2 22 _) j = _; rw [gi_si, if_neg (by omega)]) rfl
      have fs3 : FS M (sa (si M2 22 (nI d)) 0 (upd (upd g (4830 + 6 * n + 4) (nI (s d))) (4830 + 6 * s d + 4) (nI n))) := FS_trans fs2 (FS_trans (FS_si M2 (by omega) _) (FS_s0 _ _ (fun k hk => by rw [upd_ne _ _ (by omega), upd_ne _ _ (by omega)]; rw [← c0]; rfl)))
      have x0 : ga (sa (si M2 22 (nI d)) 0 (upd (upd g (4830 + 6 * n + 4) (nI (s d))) (4830 + 6 * s d + 4) (nI n))) 0 = upd (upd g (4830 + 6 * n + 4) (nI (s d))) (4830 + 6 * s d + 4) (nI n) := ga_sa0 _ _ _
      have x21 : ga (sa (si M2 22 (nI d)) 0 (upd (upd g (4830 + 6 * n + 4) (nI (s d))) (4830 + 6 * s d + 4) (nI n))) 21 = ga M 21 := e21
      have x22 : gi (sa (si M2 22 (nI d)) 0 (upd (upd g (4830 + 6 * n + 4) (nI (s d))) (4830 + 6 * s d + 4) (nI n))) 22 = nI d := rfl
      have x23 : gi (sa (si M2 22 (nI d)) 0 (upd (upd g (4830 + 6 * n + 4) (nI (s d))) (4830 + 6 * s d + 4) (nI n))) 23 = nI c := (fa.2 23 (by omega)).trans m23
      generalize sa (si M2 22 (nI d)) 0 (upd (upd g (4830 + 6 * n + 4) (nI (s d))) (4830 + 6 * s d + 4) (nI n)) = M3 at *
      dsimp only
      have eC : fX6_isRead_J88 ((1 : Int32), nI n, st, tk, z) 1 st1 tk1 z1 = (fX8_passSign 59 tk1).bind (fun r12 => if r12.1 = (0 : Int32) then some (.inl ((0 : Int32), (nI n + (1 : Int32)), st1, r12.2, z1)) else some (.inl ((1 : Int32), (nI n + (1 : Int32)), st1, r12.2, z1))) := by
        unfold fX6_isRead_J88
        rw [i10]
      rw [eC]
      rcases sign_G hG3 59 with ⟨tk2, M5, s1, s2, fc5, fa5, e5, he5, hs5, hG5⟩ | ⟨tk2, M5, s1, fk5, fp5, ⟨s2, hY⟩ | ⟨s2, hX⟩⟩
      · rw [s1, s2, bs]
        dsimp only
        rw [i10, nI_1]
        refine ⟨st1, tk2, z1, M5, FK_trans fk (FC_FK fc5), FS_trans fs3 (FS_FA fa5), Or.inl ⟨rfl, rfl, ⟨e5, ?_, hG5⟩, c, d, s, ?_⟩⟩
        · rcases hs5 with w | w
          · exact Or.inl w
          · exact Or.inr (by omega)
        · have y0 : ga M5 0 = upd (upd g (4830 + 6 * n + 4) (nI (s d))) (4830 + 6 * s d + 4) (nI n) := (FA_ga fa5 0).trans x0
          obtain ⟨wr1, wr2, wr3⟩ := wr
          refine SI_end hI w5 w6 ?_ ((fa5.2 23 (by omega)).trans x23) (fun k hk => ?_) (fun k hk hks => ?_) ?_ ?_ ?_ (fun k k1 k2 k3 => ?_) ?_ ?_ ?_ v4 ((fa5.2 22 (by omega)).trans x22) (fun i hi => ⟨by rw [v3], by rw [FA_ga fa5, x21]⟩)
          · rw [y0, upd_ne _ _ (by omega), upd_ne _ _ (by omega), g63]
          · rw [w0, wr1, wr2, wr3, upd_ne _ _ (by omega)]
            exact ⟨rfl, rfl, rfl, rfl⟩
          · rw [w4, upd_ne _ _ hks, upd_ne _ _ (by omega)]
          · rw [w4, upd_eq]
          · rw [w0, upd_eq]
          · rw [w4, upd_ne _ _ (by omega), upd_eq]
          · rw [y0, upd_ne _ _ k3, upd_ne _ _ (by omega), glt k (Or.inr ⟨k1, k2⟩)]
          · rw [y0, upd_eq]
          · rw [y0, upd_ne _ _ (by omega), upd_ne _ _ (by omega), gR]
          · rw [y0, upd_ne _ _ (by omega), upd_eq]
      · rw [s1, s2, bs]
        dsimp only
        rw [i00, nI_1]
        exact ⟨st1, tk2, z1, M5, FK_trans fk fk5, FS_trans fs3 (FS_FP fp5), Or.inr ⟨rfl, Or.inr ⟨rfl, hY⟩⟩⟩
      · rw [s1, s2, bs]
        dsimp only
        rw [i00, nI_1]
        exact ⟨st1, tk2, z1, M5, FK_trans fk fk5, FS_trans fs3 (FS_FP fp5), Or.inr ⟨rfl, Or.inl ⟨rfl, hX⟩⟩⟩
    · have e22 : gi M2 22 = nI (d + 1) := (fa.2 22 (by omega)).trans m22
      have e21 : ga M2 21 = ga M 21 := (FA_ga fa 21).trans m21
      rw [eJ, q1, bs, bs, m1, bs, tail_25 hn hd3 (show s d < 60 by omega) e22 (by rw [e21]; exact b2)]
      have fs2 : FS M M2 := FS_trans fs0 (FS_FA fa)
      obtain ⟨M5, s1, s2, s3⟩ := sign_Y (Y_M (M' := sa (si M2 22 (nI d)) 0 (upd (upd (ga M2 0) (4830 + 6 * n + 4) (nI (s d))) (4830 + 6 * s d + 4) (nI n))) hY (fun j j1 j2 => by show gi (si M2 22 _) j = _; rw [gi_si, if_neg (by omega)])) 59
      rw [s1]
      refine ⟨st1, tk1, z1, M5, fk, FS_trans fs2 (FS_trans (FS_trans (FS_si M2 (Or.inl rfl) (nI d)) (FS_s0 _ _ (fun k hk => by rw [upd_ne _ _ (by omega), upd_ne _ _ (by omega)]; rfl))) (FS_FP s2)), Or.inr ⟨?_, Or.inl ⟨rfl, s3⟩⟩⟩
      rw [← nI_1]
      rfl
