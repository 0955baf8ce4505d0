/-! ===== (B) a season's text: what is behind a step's word; the kinds ===== -/
/-- the reference at a token that is none, behind a step's word -/
theorem order_Y {tk M : Rc} (hY : Y_ tk M) (y R : Int32) : ∃ (M' : Rc) (r : Int32), fX11_seasonOrder y R M = some (r, M') ∧ FP M M' ∧ ((r = 0 ∧ X_ tk M') ∨ (r = 1 ∧ Y_ tk M')) := by
  have num : ∀ a b c, ∃ (M' : Rc) (r : Int32), (fX11_number a b c M).bind (fun r => some (r.1, r.2)) = some (r, M') ∧ FP M M' ∧ ((r = 0 ∧ X_ tk M') ∨ (r = 1 ∧ Y_ tk M')) := fun a b c => by
    obtain ⟨M', s1, s2, s3⟩ := num_Y hY a b c
    exact ⟨M', 0, by rw [s1]; rfl, s2, Or.inl ⟨rfl, s3⟩⟩
  have far : ∀ (a : Int32) (k : Int32 × Rc → Option (Int32 × Rc)), (∀ M', k ((0 : Int32), M') = some ((0 : Int32), M')) → ∃ (M' : Rc) (r : Int32), (fX11_farmerTo a M).bind k = some (r, M') ∧ FP M M' ∧ ((r = 0 ∧ X_ tk M') ∨ (r = 1 ∧ Y_ tk M')) := fun a k hk => by
    obtain ⟨M', s1, s2, s3⟩ := old_Y hY 0 (ga M 0 (0 : Int32).toNatClampNeg) a
    refine ⟨M', 0, ?_, s2, Or.inl ⟨rfl, s3⟩⟩
    unfold fX11_farmerTo
    rw [s1]
    exact hk M'
  unfold fX11_seasonOrder
  by_cases c14 : y = 14
  · rw [if_pos c14]; exact num _ _ _
  rw [if_neg c14]
  by_cases c18 : y = 18
  · rw [if_pos c18]; exact far _ _ (fun M' => rfl)
  rw [if_neg c18]
  by_cases c19 : y = 19
  · rw [if_pos c19]; exact far _ _ (fun M' => rfl)
  rw [if_neg c19]
  by_cases c20 : y = 20
  · rw [if_pos c20]; exact far _ _ (fun M' => rfl)
  rw [if_neg c20]
  by_cases c21 : y = 21
  · rw [if_pos c21]; exact num _ _ _
  rw [if_neg c21]
  by_cases c23 : y = 23
  · rw [if_pos c23]
    unfold fX11_test
    rw [inWords_bad hY.2.2.1, bs, if_neg (by decide)]
    obtain ⟨M', s1, s2, s3⟩ := fails_Y hY 2
    refine ⟨M', 0, ?_, s2, Or.inl ⟨rfl, s3⟩⟩
    unfold lt_
    rw [s1]; rfl
  rw [if_neg c23]
  by_cases c24 : y = 24
  · rw [if_pos c24]; exact num _ _ _
  rw [if_neg c24]
  exact ⟨M, 1, rfl, FP_refl M, Or.inr ⟨rfl, hY⟩⟩
/-- what a season's text changes at most -/
def FS (M M' : Rc) : Prop := (∀ j, j = 10 ∨ 24 ≤ j → gi M' j = gi M j) ∧ (∀ j, gl M' j = gl M j) ∧ (∀ j, ¬ j = 0 → ¬ j = 21 → ga M' j = ga M j) ∧ (∀ j, ¬ j = 1 → gb M' j = gb M j) ∧ (∀ k, k < 4160 → ga M' 0 k = ga M 0 k) ∧ (∀ k, k < 32 → gb M' 1 k = gb M 1 k)
theorem FS_refl (M : Rc) : FS M M := ⟨fun _ _ => rfl, fun _ => rfl, fun _ _ _ => rfl, fun _ _ => rfl, fun _ _ => rfl, fun _ _ => rfl⟩
theorem FS_trans {A B C : Rc} (h : FS A B) (k : FS B C) : FS A C := ⟨fun j x => (k.1 j x).trans (h.1 j x), fun j => (k.2.1 j).trans (h.2.1 j), fun j x y => (k.2.2.1 j x y).trans (h.2.2.1 j x y), fun j x => (k.2.2.2.1 j x).trans (h.2.2.2.1 j x), fun j x => (k.2.2.2.2.1 j x).trans (h.2.2.2.2.1 j x), fun j x => (k.2.2.2.2.2 j x).trans (h.2.2.2.2.2 j x)⟩
theorem FS_FP {M M' : Rc} (h : FP M M') : FS M M' := ⟨fun j x => h.1 j (by omega) (by omega) (by omega) (by omega), h.2.1, fun j x _ => h.2.2.1 j x, h.2.2.2.1, h.2.2.2.2.1, h.2.2.2.2.2⟩
theorem FS_FA {M M' : Rc} (h : FA M M') : FS M M' := FS_FP (FA_FP h)
theorem FS_FO {R : Nat} (hR : 4160 ≤ R) {M M' : Rc} (h : FO R M M') : FS M M' := FS_FP (FO_FP hR h)
theorem FS_si (M : Rc) {k : Nat} (hk : k = 22 ∨ k = 23) (v : Int32) : FS M (si M k v) := ⟨fun j x => by rw [gi_si, if_neg (by omega)], fun _ => rfl, fun _ _ _ => rfl, fun _ _ => rfl, fun _ _ => rfl, fun _ _ => rfl⟩
theorem FS_s0 (M : Rc) (g : Nat → Int32) (hg : ∀ k, k < 4160 → g k = ga M 0 k) : FS M (sa M 0 g) := ⟨fun _ _ => rfl, fun _ => rfl, fun j x _ => by rw [ga_sa, if_neg x], fun _ _ => rfl, fun k hk => by rw [ga_sa0]; exact hg k hk, fun _ _ => rfl⟩
theorem FS_s21 (M : Rc) (g : Nat → Int32) : FS M (sa M 21 g) := ⟨fun _ _ => rfl, fun _ => rfl, fun j _ x => by rw [ga_sa, if_neg x], fun _ _ => rfl, fun k hk => by rw [ga_sa, if_neg (by omega)], fun _ _ => rfl⟩
/-- one more opened -/
def psh (M : Rc) (n : Int32) : Rc := si (sa M 21 (upd (ga M 21) (gi M 22).toNatClampNeg n)) 22 (gi M 22 + 1)
theorem FS_psh (M : Rc) (n : Int32) : FS M (psh M n) := FS_trans (FS_s21 M _) (FS_si _ (by omega) _)
/-- the reference behind a step's word -/
noncomputable def RT2 (y1 y2 R y4 : Int32) (M : Rc) : Option (Int32 × Rc) := (fX11_seasonOrder y1 R M).bind (fun r21 => if r21.1 = (0 : Int32) then some ((0 : Int32), r21.2) else if y4 = (0 : Int32) then fX11_seasonStep_J228 y1 y2 R r21.2 else gd (inb (gi r21.2 22) 3) (fX11_seasonStep_J228 y1 y2 R (psh r21.2 y2)))
theorem J228_eq {y1 : Int32} (h : ¬ y1 = 25) (y2 R : Int32) (M : Rc) : fX11_seasonStep_J228 y1 y2 R M = fX11_wantSign 59 M := by
  unfold fX11_seasonStep_J228
  rw [if_neg h]
  cases fX11_wantSign 59 M <;> rfl
/-- it fails at a token that is none -/
theorem tail_Y {tk M : Rc} (hY : Y_ tk M) {y1 : Int32} (h : ¬ y1 = 25) (y2 R y4 : Int32) {dp : Nat} (h22 : gi M 22 = nI dp) (hd : y4 = 0 ∨ dp < 3) : ∃ M', RT2 y1 y2 R y4 M = some ((0 : Int32), M') ∧ FS M M' ∧ X_ tk M' := by
  obtain ⟨M1, r, s1, s2, ⟨rfl, s3⟩ | ⟨rfl, s3⟩⟩ := order_Y hY y1 R
  · exact ⟨M1, by unfold RT2; rw [s1]; rfl, FS_FP s2, s3⟩
  · unfold RT2
    rw [s1, bs]
    dsimp only
    rw [i10]
    by_cases c : y4 = 0
    · rw [if_pos c, J228_eq h]
      obtain ⟨M2, t1, t2, t3⟩ := sign_Y s3 59
      exact ⟨M2, t1, FS_trans (FS_FP s2) (FS_FP t2), t3⟩
    · have e22 : gi M1 22 = nI dp := (s2.1 22 (by omega) (by omega) (by omega) (by omega)).trans h22
      rw [if_neg c, e22, gd_pos (inbn (by rcases hd with z | z; exact absurd z c; exact z) (by decide)), J228_eq h]
      obtain ⟨M2, t1, t2, t3⟩ := sign_Y (Y_M (M' := psh M1 y2) s3 (fun j j1 j2 => by unfold psh; rw [gi_si, if_neg (by omega)]; rfl)) 59
      exact ⟨M2, t1, FS_trans (FS_FP s2) (FS_trans (FS_psh _ _) (FS_FP t2)), t3⟩
theorem bnf {β : Type} {e : Option (Int32 × Rc)} {u : Int32 × Rc → Option β} {k : Int32 × Rc → Option β} {r : β} (h : e.bind (fun q => if q.1 = (0 : Int32) then u q else k q) = some r) : ∃ q, e = some q ∧ ((q.1 = 0 ∧ u q = some r) ∨ (¬ q.1 = 0 ∧ k q = some r)) := by
  obtain ⟨q, e1, e2⟩ := bd_elim h
  refine ⟨q, e1, ?_⟩
  by_cases c : q.1 = 0
  · rw [if_pos c] at e2; exact Or.inl ⟨c, e2⟩
  · rw [if_neg c] at e2; exact Or.inr ⟨c, e2⟩
theorem bnf2 {β : Type} {e : Option (Int32 × Rc × Rc)} {u : Int32 × Rc × Rc → Option β} {k : Int32 × Rc × Rc → Option β} {r : β} (h : e.bind (fun q => if q.1 = (0 : Int32) then u q else k q) = some r) : ∃ q, e = some q ∧ ((q.1 = 0 ∧ u q = some r) ∨ (¬ q.1 = 0 ∧ k q = some r)) := by
  obtain ⟨q, e1, e2⟩ := bd_elim h
  refine ⟨q, e1, ?_⟩
  by_cases c : q.1 = 0
  · rw [if_pos c] at e2; exact Or.inl ⟨c, e2⟩
  · rw [if_neg c] at e2; exact Or.inr ⟨c, e2⟩
theorem no01 {a b q r : Rc} (h : some ((0 : Int32), q, r) = some ((1 : Int32), a, b)) : False := absurd (congrArg (fun o => o.elim 0 (fun x => x.1)) h) (by decide : ¬ (0 : Int32) = 1)
theorem yes1 {a b q r : Rc} {x y : Int32} (h : some (x, q, r) = some (y, a, b)) : b = r := by cases h; rfl
/-- the sign leaves the kinds alone -/
theorem sign_kind {st tk z : Rc} {x : Int32} {q r : Rc} (h : fX6_readSign st tk z = some (x, q, r)) : ga r 0 = ga z 0 := by
  have j : ∀ {x : Int32} {q r : Rc}, fX6_readSign_J45 st tk z = some (x, q, r) → ga r 0 = ga z 0 := fun {x q r} h => by
    unfold fX6_readSign_J45 lt_ at h
    obtain ⟨-, h⟩ := gd_elim h
    obtain ⟨w, -, h⟩ := bd_elim h
    rw [yes1 h]
    rfl
  unfold fX6_readSign lt_ at h
  by_cases c1 : fX8_isSign 60 tk = 0
  · rw [if_pos c1] at h
    by_cases c2 : fX8_isSign 62 tk = 0
    · rw [if_pos c2] at h
      by_cases c3 : fX8_isSign 61 tk = 0
      · rw [if_pos c3] at h
        rw [yes1 h]
      · rw [if_neg c3] at h; exact j h
    · rw [if_neg c2] at h; exact j h
  · rw [if_neg c1] at h; exact j h
theorem test_kind {st tk z b : Rc} {n : Nat} (hn : n < 60) (h5 : gi st 5 = nI n) {q r : Rc} (h : fX6_readTest st tk z b = some ((1 : Int32), q, r)) : opn r n := by
  unfold fX6_readTest lt_ at h
  rw [h5, gd_pos (inbn (by omega) (by decide)), nI_clamp (by omega)] at h
  dsimp only at h
  by_cases c1 : gi tk 8 = 24
  · rw [if_pos c1] at h
    obtain ⟨w, -, ⟨-, h⟩ | ⟨-, h⟩⟩ := bnf h
    · exact absurd h no01
    · obtain ⟨w, -, ⟨-, h⟩ | ⟨-, h⟩⟩ := bnf h
      · exact absurd h no01
      · rw [yes1 h]
        refine Or.inl ?_
        rw [ga_sa0, upd_eq, c1]
  rw [if_neg c1] at h
  by_cases c2 : gi tk 8 = 25
  · rw [if_pos c2] at h
    obtain ⟨w, -, ⟨-, h⟩ | ⟨-, h⟩⟩ := bnf h
    · exact absurd h no01
    · obtain ⟨w, -, ⟨-, h⟩ | ⟨-, h⟩⟩ := bnf h
      · exact absurd h no01
      · obtain ⟨⟨x, w1, w2⟩, e, ⟨-, h⟩ | ⟨-, h⟩⟩ := bnf2 h
        · exact absurd h no01
        · have k := sign_kind e
          obtain ⟨w, -, ⟨-, h⟩ | ⟨-, h⟩⟩ := bnf h
          · exact absurd h no01
          · rw [yes1 h]
            refine Or.inr (Or.inl ?_)
            show ga w2 0 n = 25
            rw [k, ga_sa0, upd_eq, c2]
  rw [if_neg c2] at h
  by_cases c3 : gi tk 8 = 26
  · rw [if_pos c3] at h
    obtain ⟨w, -, ⟨-, h⟩ | ⟨-, h⟩⟩ := bnf h
    · exact absurd h no01
    · obtain ⟨⟨x, w1, w2⟩, e, ⟨-, h⟩ | ⟨-, h⟩⟩ := bnf2 h
      · exact absurd h no01
      · have k := sign_kind e
        obtain ⟨w, -, ⟨-, h⟩ | ⟨-, h⟩⟩ := bnf h
        · exact absurd h no01
        · rw [yes1 h]
          refine Or.inr (Or.inr (Or.inl ?_))
          show ga w2 0 n = 26
          rw [k, ga_sa0, upd_eq, c3]
  rw [if_neg c3] at h
  exact absurd h no01
/-- what kind a step is at its end -/
theorem rest_kind {st tk z b : Rc} {n : Nat} (hn : n < 60) (h5 : gi st 5 = nI n) {q r : Rc} (h : fX6_readRest st tk z b = some ((1 : Int32), q, r)) : (ga z 0 n = 23 ∧ opn r n) ∨ (¬ ga z 0 n = 23 ∧ r = z) := by
  unfold fX6_readRest at h
  rw [h5, gd_pos (inbn (by omega) (by decide)), nI_clamp (by omega)] at h
  by_cases c14 : ga z 0 n = 14
  · rw [if_pos c14] at h
    obtain ⟨w, -, h⟩ := bd_elim h
    exact Or.inr ⟨by rw [c14]; decide, yes1 h⟩
  rw [if_neg c14] at h
  by_cases c18 : ga z 0 n = 18
  · rw [if_pos c18] at h
    obtain ⟨w, -, ⟨-, h⟩ | ⟨-, h⟩⟩ := bnf h
    · exact Or.inr ⟨by rw [c18]; decide, yes1 h⟩
    · obtain ⟨w, -, ⟨-, h⟩ | ⟨-, h⟩⟩ := bnf h
      · exact Or.inr ⟨by rw [c18]; decide, yes1 h⟩
      · exact Or.inr ⟨by rw [c18]; decide, yes1 h⟩
  rw [if_neg c18] at h
  by_cases c20 : ga z 0 n = 20
  · rw [if_pos c20] at h
    obtain ⟨w, -, ⟨-, h⟩ | ⟨-, h⟩⟩ := bnf h
    · exact Or.inr ⟨by rw [c20]; decide, yes1 h⟩
    · obtain ⟨w, -, ⟨-, h⟩ | ⟨-, h⟩⟩ := bnf h
      · exact Or.inr ⟨by rw [c20]; decide, yes1 h⟩
      · exact Or.inr ⟨by rw [c20]; decide, yes1 h⟩
  rw [if_neg c20] at h
  by_cases c21 : ga z 0 n = 21
  · rw [if_pos c21] at h
    obtain ⟨w, -, ⟨-, h⟩ | ⟨-, h⟩⟩ := bnf h
    · exact Or.inr ⟨by rw [c21]; decide, yes1 h⟩
    · obtain ⟨w, -, ⟨-, h⟩ | ⟨-, h⟩⟩ := bnf h
      · exact Or.inr ⟨by rw [c21]; decide, yes1 h⟩
      · exact Or.inr ⟨by rw [c21]; decide, yes1 h⟩
  rw [if_neg c21] at h
  by_cases c22 : ga z 0 n = 22
  · rw [if_pos c22] at h
    obtain ⟨w, -, h⟩ := bd_elim h
    exact Or.inr ⟨by rw [c22]; decide, yes1 h⟩
  rw [if_neg c22] at h
  by_cases c23 : ga z 0 n = 23
  · rw [if_pos c23] at h
    obtain ⟨⟨x, w1, w2⟩, e, h⟩ := bd_elim h
    have e3 : fX6_readTest st tk z b = some ((1 : Int32), q, r) := e.trans h
    exact Or.inl ⟨c23, test_kind hn h5 e3⟩
  rw [if_neg c23] at h
  by_cases c27 : ga z 0 n = 27
  · rw [if_pos c27] at h
    obtain ⟨w, -, h⟩ := bd_elim h
    exact Or.inr ⟨c23, yes1 h⟩
  rw [if_neg c27] at h
  exact Or.inr ⟨c23, yes1 h⟩
