/-! ===== (B) texts: what is asked of tokens ===== -/
/-- all is well so far; the token ends at e -/
def G (t : Nat → Int32) (N e : Nat) (tk M : Rc) : Prop := TX t N tk M ∧ (∃ a, TOK t N tk M a e) ∧ gi tk 12 = 0 ∧ gi tk 13 = -1 ∧ gi M 18 = 0 ∧ gi M 17 = -1
/-- both have failed -/
def X_ (tk M : Rc) : Prop := ∃ k : Nat, 1 ≤ k ∧ k ≤ 9 ∧ gi tk 12 = nI k ∧ gi M 18 = nI k ∧ gi tk 13 = gi M 17
/-- the class has failed at a token that is none; the reference stands at it -/
def Y_ (tk M : Rc) : Prop := gi tk 12 = 1 ∧ gi M 18 = 0 ∧ gi M 12 = 1 ∧ gi tk 13 = gi M 13
def FK (tk tk' : Rc) : Prop := gi tk' 2 = gi tk 2 ∧ ga tk' = ga tk ∧ gb tk' = gb tk
/-- reading a text changes the new slot, its names and the reader's own numbers alone -/
def FP (M M' : Rc) : Prop := (∀ j, ¬ (12 ≤ j ∧ j ≤ 15) → ¬ j = 17 → ¬ j = 18 → ¬ j = 20 → gi M' j = gi M j) ∧ (∀ j, gl M' j = gl M j) ∧ (∀ j, ¬ j = 0 → ga M' j = ga M j) ∧ (∀ j, ¬ j = 1 → gb M' j = gb M j) ∧ (∀ k, k < 4160 → ga M' 0 k = ga M 0 k) ∧ (∀ k, k < 32 → gb M' 1 k = gb M 1 k)
theorem FP_refl (M : Rc) : FP M M := ⟨fun _ _ _ _ _ => rfl, fun _ => rfl, fun _ _ => rfl, fun _ _ => rfl, fun _ _ => rfl, fun _ _ => rfl⟩
theorem FP_trans {A B C : Rc} (h : FP A B) (k : FP B C) : FP A C := by
  obtain ⟨a1, a2, a3, a4, a5, a6⟩ := h
  obtain ⟨b1, b2, b3, b4, b5, b6⟩ := k
  exact ⟨fun j h1 h2 h3 h4 => (b1 j h1 h2 h3 h4).trans (a1 j h1 h2 h3 h4), fun j => (b2 j).trans (a2 j), fun j h1 => (b3 j h1).trans (a3 j h1), fun j h1 => (b4 j h1).trans (a4 j h1), fun k hk => (b5 k hk).trans (a5 k hk), fun k hk => (b6 k hk).trans (a6 k hk)⟩
theorem FA_FP {M M' : Rc} (h : FA M M') : FP M M' := ⟨fun j h1 _ _ _ => h.2 j h1, FA_gl h, fun j _ => FA_ga h j, fun j _ => FA_gb h j, fun k _ => by rw [FA_ga h], fun k _ => by rw [FA_gb h]⟩
theorem FP_up (M : Rc) {k : Nat} (hk : 4160 ≤ k) (v : Int32) : FP M (sa M 0 (upd (ga M 0) k v)) := ⟨fun _ _ _ _ _ => rfl, fun _ => rfl, fun j h1 => by rw [ga_sa, if_neg h1], fun _ _ => rfl, fun j hj => by rw [ga_sa0, upd_ne _ _ (by omega)], fun _ _ => rfl⟩
theorem FP_nm (M : Rc) {k : Nat} (hk : 32 ≤ k) (v : Int64) : FP M (sb M 1 (vp_updL (gb M 1) k v)) := ⟨fun _ _ _ _ _ => rfl, fun _ => rfl, fun j h1 => rfl, fun j h1 => by rw [gb_sb, if_neg h1], fun j hj => rfl, fun j hj => by rw [gb_sb0]; unfold vp_updL; rw [if_neg (by omega)]⟩
theorem FP_si (M : Rc) {k : Nat} (hk : k = 17 ∨ k = 18 ∨ k = 20) (v : Int32) : FP M (si M k v) := ⟨fun j h1 h2 h3 h4 => by rw [gi_si, if_neg (by omega)], fun _ => rfl, fun _ _ => rfl, fun _ _ => rfl, fun _ _ => rfl, fun _ _ => rfl⟩
theorem FC_FK {tk tk' : Rc} (h : FC tk tk') : FK tk tk' := ⟨h.2.2 2 (by omega), h.1, h.2.1⟩
theorem FK_refl (tk : Rc) : FK tk tk := ⟨rfl, rfl, rfl⟩
theorem FK_trans {A B C : Rc} (h : FK A B) (k : FK B C) : FK A C := ⟨k.1.trans h.1, k.2.1.trans h.2.1, k.2.2.trans h.2.2⟩
theorem FK_si (tk : Rc) {k : Nat} (hk : ¬ k = 2) (v : Int32) : FK tk (si tk k v) := ⟨by rw [gi_si, if_neg (fun z => hk z.symm)], rfl, rfl⟩
/-- what doesn't touch the reader -/
theorem G_M {t : Nat → Int32} {N e : Nat} {tk M M' : Rc} (h : G t N e tk M) (h1 : ∀ j, 11 ≤ j → j ≤ 18 → gi M' j = gi M j) (h2 : ga M' 9 = ga M 9) : G t N e tk M' := by
  obtain ⟨⟨a1, a2, a3, a4, a5, a6, a7⟩, ⟨a, t1, t2, t3, t4, t5, t6, t7⟩, c1, c2, c3, c4⟩ := h
  refine ⟨⟨a1, a2, (h1 11 (by omega) (by omega)).trans a3, a4, fun k hk => by rw [h2]; exact a5 k hk, a6, a7⟩, ⟨a, t1, t2, t3, t4, (h1 13 (by omega) (by omega)).trans t5, (h1 14 (by omega) (by omega)).trans t6, ?_⟩, c1, c2, (h1 18 (by omega) (by omega)).trans c3, (h1 17 (by omega) (by omega)).trans c4⟩
  rw [h1 12 (by omega) (by omega), h1 15 (by omega) (by omega)]
  exact t7
theorem G_T {t : Nat → Int32} {N e : Nat} {tk M : Rc} (h : G t N e tk M) {k : Nat} (hk : k = 10 ∨ k = 11) (v : Int32) : G t N e (si tk k v) M := by
  rcases hk with rfl | rfl
  · exact h
  · exact h
theorem G_e {t : Nat → Int32} {N e : Nat} {tk M : Rc} (h : G t N e tk M) : gi tk 5 = nI e ∧ gi M 14 = nI e ∧ e ≤ N := by
  obtain ⟨-, ⟨a, t1, t2, t3, t4, t5, t6, t7⟩, -⟩ := h
  exact ⟨t4, t6, t2⟩
theorem G_tok {t : Nat → Int32} {N e : Nat} {tk M : Rc} (h : G t N e tk M) : (gi M 12 = 0 ∨ gi M 12 = 2 ∨ gi M 12 = 3 ∨ gi M 12 = 4) ∧ gi tk 4 = gi M 13 ∧ kwr (gi tk 8) ∧ fX11_inWords M = some (rki (gi tk 8)) := by
  obtain ⟨hT, ⟨a, ht⟩, -⟩ := h
  refine ⟨?_, ?_, tok_kwr ht, inWords_eq hT ht⟩
  · obtain ⟨-, -, -, -, -, -, h⟩ := ht
    rcases h with ⟨-, q, -⟩ | ⟨-, q, -⟩ | ⟨-, q, -⟩ | ⟨-, q, -⟩
    · exact Or.inl q
    · exact Or.inr (Or.inl q)
    · exact Or.inr (Or.inr (Or.inl q))
    · exact Or.inr (Or.inr (Or.inr q))
  · exact ht.2.2.1.trans ht.2.2.2.2.1.symm
/-- on to the next token -/
theorem adv_G {t : Nat → Int32} {N e : Nat} {tk M : Rc} (h : G t N e tk M) : ∃ (tk' M' : Rc), fX11_ahead M = some M' ∧ FA M M' ∧ FK tk tk' ∧ ((fX8_advance tk = some ((1 : Int32), tk') ∧ FC tk tk' ∧ ∃ e', e ≤ e' ∧ (gi M' 12 = 0 ∨ e < e') ∧ G t N e' tk' M') ∨ (fX8_advance tk = some ((0 : Int32), tk') ∧ Y_ tk' M')) := by
  obtain ⟨g5, g14, heN⟩ := G_e h
  obtain ⟨hT, -, c1, c2, c3, c4⟩ := h
  obtain ⟨tk', M', m1, fa, h⟩ := adv_eq hT heN g5 g14
  rcases h with ⟨q1, fc, a, e', ha, hae, htok⟩ | ⟨q1, q2, q3, q4, q5, q6, q7⟩
  · refine ⟨tk', M', m1, fa, FC_FK fc, Or.inl ⟨q1, fc, e', by have := htok.1; omega, ?_, TX_frame hT fc fa, ⟨a, htok⟩, (fc.2.2 12 (by omega)).trans c1, (fc.2.2 13 (by omega)).trans c2, (fa.2 18 (by omega)).trans c3, (fa.2 17 (by omega)).trans c4⟩⟩
    rcases hae with w | w
    · exact Or.inl w
    · exact Or.inr (by omega)
  · exact ⟨tk', M', m1, fa, ⟨q5, q6, q7⟩, Or.inr ⟨q1, q2, (fa.2 18 (by omega)).trans c3, q4, q3⟩⟩
/-- a fault at the token that is looked at -/
theorem fail_G {t : Nat → Int32} {N e : Nat} {tk M : Rc} (h : G t N e tk M) {k : Nat} (h1 : 1 ≤ k) (h9 : k ≤ 9) : ∃ (tk' M' : Rc), fX8_fail (nI k) tk = ((0 : Int32), tk') ∧ fX11_fails (nI k) M = ((0 : Int32), M') ∧ FK tk tk' ∧ FP M M' ∧ X_ tk' M' := by
  obtain ⟨hk, h4, -, -⟩ := G_tok h
  obtain ⟨-, -, c1, c2, c3, c4⟩ := h
  refine ⟨si (si tk 12 (nI k)) 13 (gi tk 4), si (si M 18 (nI k)) 17 (gi M 13), rfl, ?_, FK_trans (FK_si _ (by decide) _) (FK_si _ (by decide) _), FP_trans (FP_si M (by omega) _) (FP_si _ (by omega) _), k, h1, h9, rfl, rfl, h4⟩
  unfold fX11_fails lt_
  rw [c3, if_pos rfl, if_neg (by rcases hk with q | q | q | q <;> (rw [q]; decide))]
  rfl
theorem fails_Y {tk M : Rc} (h : Y_ tk M) (k : Int32) : ∃ M', fX11_fails k M = ((0 : Int32), M') ∧ FP M M' ∧ X_ tk M' := by
  obtain ⟨h1, h2, h3, h4⟩ := h
  refine ⟨si (si M 18 1) 17 (gi M 13), ?_, FP_trans (FP_si M (by omega) _) (FP_si _ (by omega) _), 1, by decide, by decide, h1, rfl, h4⟩
  unfold fX11_fails lt_
  rw [h2, if_pos rfl, h3, if_pos rfl]
  rfl
theorem Y_M {tk M M' : Rc} (h : Y_ tk M) (h1 : ∀ j, 12 ≤ j → j ≤ 18 → gi M' j = gi M j) : Y_ tk M' := by
  obtain ⟨a1, a2, a3, a4⟩ := h
  exact ⟨a1, (h1 18 (by omega) (by omega)).trans a2, (h1 12 (by omega) (by omega)).trans a3, a4.trans (h1 13 (by omega) (by omega)).symm⟩
/-- what an asking comes to, when it fails: the class says no; the reference says no, or is to say it at the next asking -/
def BADR (tk M : Rc) (c m : Option (Int32 × Rc)) : Prop := ∃ (tk' M' : Rc), c = some ((0 : Int32), tk') ∧ FK tk tk' ∧ FP M M' ∧ ((m = some ((1 : Int32), M') ∧ Y_ tk' M') ∨ (m = some ((0 : Int32), M') ∧ X_ tk' M'))
theorem word_G {t : Nat → Int32} {N e : Nat} {tk M : Rc} (h : G t N e tk M) {j : Nat} (hj : j < 30) : (∃ (tk' M' : Rc), fX8_passWord (nI j) tk = some ((1 : Int32), tk') ∧ fX11_wantWord (nI (rk j)) M = some ((1 : Int32), M') ∧ FC tk tk' ∧ FA M M' ∧ ∃ e', e ≤ e' ∧ G t N e' tk' M') ∨ BADR tk M (fX8_passWord (nI j) tk) (fX11_wantWord (nI (rk j)) M) := by
  obtain ⟨hk, h4, hkw, hin⟩ := G_tok h
  unfold fX8_passWord fX11_wantWord
  rw [hin, bs]
  by_cases c : gi tk 8 = nI j
  · rw [if_pos c, if_pos ((rki_eq hkw hj rfl).mpr c)]
    obtain ⟨tk', M', m1, fa, fk, ⟨q1, fc, e', he, -, hG⟩ | ⟨q1, hY⟩⟩ := adv_G h
    · rw [m1, q1]
      exact Or.inl ⟨tk', M', rfl, rfl, fc, fa, e', he, hG⟩
    · rw [m1, q1]
      exact Or.inr ⟨tk', M', rfl, fk, FA_FP fa, Or.inl ⟨rfl, hY⟩⟩
  · rw [if_neg c, if_neg (fun z => c ((rki_eq hkw hj rfl).mp z))]
    obtain ⟨tk', M', q1, q2, q3, q4, q5⟩ := fail_G h (k := 2) (by decide) (by decide)
    rw [show (2 : Int32) = nI 2 from rfl, q1, q2]
    exact Or.inr ⟨tk', M', rfl, q3, q4, Or.inr ⟨rfl, q5⟩⟩
theorem sign_is {t : Nat → Int32} {N e : Nat} {tk M : Rc} (h : G t N e tk M) (c : Int32) : fX8_isSign c tk = fX11_isSign c M := by
  obtain ⟨hT, ⟨a, -, -, -, -, -, -, ht⟩, -⟩ := h
  unfold fX8_isSign fX11_isSign
  rcases ht with ⟨q1, q2, -⟩ | ⟨q1, q2, -⟩ | ⟨q1, q2, -⟩ | ⟨q1, q2, -, q3⟩
  · rw [q1, q2, if_neg (by decide), if_neg (by decide)]
  · rw [q1, q2, if_neg (by decide), if_neg (by decide)]
  · rw [q1, q2, if_neg (by decide), if_neg (by decide)]
  · rw [q1, q2, if_pos rfl, if_pos rfl, q3]
theorem sign_G {t : Nat → Int32} {N e : Nat} {tk M : Rc} (h : G t N e tk M) (c : Int32) : (∃ (tk' M' : Rc), fX8_passSign c tk = some ((1 : Int32), tk') ∧ fX11_wantSign c M = some ((1 : Int32), M') ∧ FC tk tk' ∧ FA M M' ∧ ∃ e', e ≤ e' ∧ (gi M' 12 = 0 ∨ e < e') ∧ G t N e' tk' M') ∨ BADR tk M (fX8_passSign c tk) (fX11_wantSign c M) := by
  unfold fX8_passSign fX11_wantSign
  rw [sign_is h c]
  by_cases q : fX11_isSign c M = 0
  · rw [if_pos q, if_pos q]
    obtain ⟨tk', M', q1, q2, q3, q4, q5⟩ := fail_G h (k := 2) (by decide) (by decide)
    rw [show (2 : Int32) = nI 2 from rfl, q1, q2]
    exact Or.inr ⟨tk', M', rfl, q3, q4, Or.inr ⟨rfl, q5⟩⟩
  · rw [if_neg q, if_neg q]
    obtain ⟨tk', M', m1, fa, fk, ⟨q1, fc, e', he, hs, hG⟩ | ⟨q1, hY⟩⟩ := adv_G h
    · rw [m1, q1]
      exact Or.inl ⟨tk', M', rfl, rfl, fc, fa, e', he, hs, hG⟩
    · rw [m1, q1]
      exact Or.inr ⟨tk', M', rfl, fk, FA_FP fa, Or.inl ⟨rfl, hY⟩⟩
theorem num_G {t : Nat → Int32} {N e : Nat} {tk M : Rc} (h : G t N e tk M) {lo hi to : Nat} (h1 : lo ≤ 9999) (h2 : hi ≤ 9999) (h3 : 4160 ≤ to) (h4 : to < 6240) : (∃ (tk' M' : Rc) (v : Nat), fX8_passNumber (nI lo) (nI hi) tk = some ((1 : Int32), tk') ∧ fX11_number (nI to) (nI lo) (nI hi) M = some ((1 : Int32), M') ∧ FC (si tk 10 (nI v)) tk' ∧ FA (sa M 0 (upd (ga M 0) to (nI v))) M' ∧ lo ≤ v ∧ v ≤ hi ∧ ∃ e', e ≤ e' ∧ G t N e' tk' M') ∨ BADR tk M (fX8_passNumber (nI lo) (nI hi) tk) (fX11_number (nI to) (nI lo) (nI hi) M) := by
  have hG := h
  obtain ⟨hT, ⟨a, -, -, -, -, -, -, ht⟩, -⟩ := h
  unfold fX8_passNumber fX11_number fX10_outside lt_
  have bad : ∀ k : Nat, 1 ≤ k → k ≤ 9 → BADR tk M (some ((fX8_fail (nI k) tk).1, (fX8_fail (nI k) tk).2)) (some ((fX11_fails (nI k) M).1, (fX11_fails (nI k) M).2)) := fun k k1 k9 => by
    obtain ⟨tk', M', q1, q2, q3, q4, q5⟩ := fail_G hG k1 k9
    rw [q1, q2]
    exact ⟨tk', M', rfl, q3, q4, Or.inr ⟨rfl, q5⟩⟩
  have notn : ¬ gi tk 6 = 2 → ¬ gi M 12 = 3 → (∃ (tk' M' : Rc) (v : Nat), (some ((fX8_fail 2 tk).1, (fX8_fail 2 tk).2)) = some ((1 : Int32), tk') ∧ (some ((fX11_fails 2 M).1, (fX11_fails 2 M).2)) = some ((1 : Int32), M') ∧ FC (si tk 10 (nI v)) tk' ∧ FA (sa M 0 (upd (ga M 0) to (nI v))) M' ∧ lo ≤ v ∧ v ≤ hi ∧ ∃ e', e ≤ e' ∧ G t N e' tk' M') ∨ BADR tk M (some ((fX8_fail 2 tk).1, (fX8_fail 2 tk).2)) (some ((fX11_fails 2 M).1, (fX11_fails 2 M).2)) := fun _ _ => Or.inr (bad 2 (by decide) (by decide))
  rcases ht with ⟨q1, q2, -⟩ | ⟨q1, q2, -⟩ | ⟨q1, q2, -, q3, q4, q5⟩ | ⟨q1, q2, -⟩
  · rw [q1, q2, if_neg (by decide), if_neg (by decide)]; exact notn (by rw [q1]; decide) (by rw [q2]; decide)
  · rw [q1, q2, if_neg (by decide), if_neg (by decide)]; exact notn (by rw [q1]; decide) (by rw [q2]; decide)
  · rw [q1, q2, if_pos rfl, if_pos rfl, ← q3]
    obtain ⟨v, hv, ev⟩ : ∃ v : Nat, v ≤ 9999 ∧ gi tk 9 = nI v := ⟨(gi tk 9).toInt.toNat, by omega, i_nat q4⟩
    rw [ev]
    by_cases c1 : v < lo
    · rw [if_pos (nI_lt c1 (by omega)), i10, if_pos (nI_lt c1 (by omega))]
      exact Or.inr (bad 4 (by decide) (by decide))
    · rw [if_neg (nI_nlt (by omega) (by omega)), if_neg (nI_nlt (by omega) (by omega))]
      by_cases c2 : v ≤ hi
      · rw [if_pos (nI_le c2 (by omega)), i00, if_pos (nI_le c2 (by omega)), gd_pos (inbn h4 (by decide)), nI_clamp (by omega)]
        have hG2 : G t N e (si tk 10 (nI v)) (sa M 0 (upd (ga M 0) to (nI v))) := G_M (G_T hG (Or.inl rfl) (nI v)) (fun _ _ _ => rfl) rfl
        obtain ⟨tk', M', m1, fa, fk, ⟨w1, fc, e', he, -, hG3⟩ | ⟨w1, hY⟩⟩ := adv_G hG2
        · dsimp only
          rw [m1, w1]
          exact Or.inl ⟨tk', M', v, rfl, rfl, fc, fa, by omega, c2, e', he, hG3⟩
        · dsimp only
          rw [m1, w1]
          exact Or.inr ⟨tk', M', rfl, FK_trans (FK_si _ (by decide) _) fk, FP_trans (FP_up M h3 _) (FA_FP fa), Or.inl ⟨rfl, hY⟩⟩
      · rw [if_neg (nI_ge (by omega) (by omega)), i10, if_neg (nI_ge (by omega) (by omega))]
        exact Or.inr (bad 4 (by decide) (by decide))
  · rw [q1, q2, if_neg (by decide), if_neg (by decide)]; exact notn (by rw [q1]; decide) (by rw [q2]; decide)
/-- a name stands here, or not -/
theorem name_G {t : Nat → Int32} {N e : Nat} {tk M : Rc} (h : G t N e tk M) : (∃ w, okw w ∧ fX8_mustBeName tk = ((1 : Int32), tk) ∧ fX11_isName M = some 1 ∧ gl tk 7 = pk5 w ∧ fX11_nameHere M = some (pk8 w)) ∨ (∃ (tk' M' : Rc), fX8_mustBeName tk = ((0 : Int32), tk') ∧ fX11_isName M = some 0 ∧ fX11_fails 2 M = ((0 : Int32), M') ∧ FK tk tk' ∧ FP M M' ∧ X_ tk' M') := by
  have hG := h
  obtain ⟨-, -, hkw, hin⟩ := G_tok h
  obtain ⟨hT, ⟨a, t1, t2, t3, t4, t5, t6, ht⟩, -⟩ := h
  have bad : (fX11_isName M = some 0) → (fX8_mustBeName tk = fX8_mustBeName_J27 tk) → (∃ (tk' M' : Rc), fX8_mustBeName tk = ((0 : Int32), tk') ∧ fX11_isName M = some 0 ∧ fX11_fails 2 M = ((0 : Int32), M') ∧ FK tk tk' ∧ FP M M' ∧ X_ tk' M') := fun h1 h2 => by
    obtain ⟨tk', M', q1, q2, q3, q4, q5⟩ := fail_G hG (k := 2) (by decide) (by decide)
    refine ⟨tk', M', ?_, h1, q2, q3, q4, q5⟩
    rw [h2]
    unfold fX8_mustBeName_J27 lt_
    rw [show fX8_fail 2 tk = ((0 : Int32), tk') from q1]
    rfl
  rcases ht with ⟨q1, q2, -⟩ | ⟨q1, q2, q3, q4, q5⟩ | ⟨q1, q2, -⟩ | ⟨q1, q2, -⟩
  · right
    refine bad ?_ ?_
    · unfold fX11_isName; rw [q2, if_neg (by decide)]
    · unfold fX8_mustBeName; rw [q1, if_neg (by decide)]
  · have d2 : gi M 14 - gi M 13 = nI (e - a) := by
      rw [t5, t6]
      apply i_ext
      have hN := hT.2.2.2.1
      have y1 : (nI e).toInt = (e : Int) := nI_toInt (by omega)
      have y2 : (nI a).toInt = (a : Int) := nI_toInt (by omega)
      rw [i_sub (by omega) (by omega), y1, y2, nI_toInt (by omega)]
      omega
    have hN := hT.2.2.2.1
    rcases q5 with ⟨c8, h7, hkwi⟩ | ⟨c8, h7, h8⟩
    · have hw := wl_okl hT.2.2.2.2.2.1 (a := a) (n := e - a) (fun k k1 k2 => q4 k k1 (by omega)) c8
      by_cases c : gi tk 8 = -1
      · left
        refine ⟨wl t a (e - a), ⟨fun z => ?_, hw.1, hw.2⟩, ?_, ?_, h7, nameHere_eq hT t1 t2 t5 t6 q4⟩
        · have := congrArg List.length z
          rw [wl_len] at this
          have z0 : ([] : List Nat).length = 0 := rfl
          omega
        · unfold fX8_mustBeName
          rw [q1, if_pos rfl, h7, if_neg (pk5_m1 hw), if_pos c]
        · unfold fX11_isName
          rw [q2, if_pos rfl, d2, if_neg (show ¬ (8 : Int32) < nI (e - a) from nI_nlt (b := e - a) (a := 8) c8 (by decide)), hin, c]
          rfl
      · right
        refine bad ?_ ?_
        · unfold fX11_isName
          rw [q2, if_pos rfl, d2, if_neg (show ¬ (8 : Int32) < nI (e - a) from nI_nlt (b := e - a) (a := 8) c8 (by decide)), hin, bs]
          rcases hkw with z | ⟨i, hi, z⟩
          · exact absurd z c
          · rw [z, rki_n hi, if_neg (nI_m1 (by have := (ki_rk i hi).2; omega))]
        · unfold fX8_mustBeName
          rw [q1, if_pos rfl, h7, if_neg (pk5_m1 hw), if_neg c]
    · right
      refine bad ?_ ?_
      · unfold fX11_isName
        rw [q2, if_pos rfl, d2, if_pos (show (8 : Int32) < nI (e - a) from nI_lt (a := 8) c8 (by omega))]
      · unfold fX8_mustBeName
        rw [q1, if_pos rfl, h7, if_pos rfl]
  · right
    refine bad ?_ ?_
    · unfold fX11_isName; rw [q2, if_neg (by decide)]
    · unfold fX8_mustBeName; rw [q1, if_neg (by decide)]
  · right
    refine bad ?_ ?_
    · unfold fX11_isName; rw [q2, if_neg (by decide)]
    · unfold fX8_mustBeName; rw [q1, if_neg (by decide)]
theorem isName_Y {tk M : Rc} (h : Y_ tk M) : fX11_isName M = some 0 := by
  unfold fX11_isName
  rw [h.2.2.1, if_neg (by decide)]
/-- a farmer that is told ahead -/
theorem must_G {t : Nat → Int32} {N e : Nat} {tk M b : Rc} (h : G t N e tk M) {F base : Nat} (hF : F ≤ 8) (hb8 : base + 8 ≤ 48) (h8 : gi b 8 = nI F) (hN : NM b M F base) : (∃ (f : Nat), f < F ∧ fX8_mustBeFarmer tk b = some ((1 : Int32), si tk 11 (nI f)) ∧ fX11_isName M = some 1 ∧ fX11_findHere (nI base) (nI F) M = some (nI f)) ∨ (∃ (tk' M' : Rc), fX8_mustBeFarmer tk b = some ((0 : Int32), tk') ∧ FK tk tk' ∧ FP M M' ∧ X_ tk' M' ∧ ((fX11_isName M = some 0 ∧ fX11_fails 2 M = ((0 : Int32), M')) ∨ (fX11_isName M = some 1 ∧ fX11_findHere (nI base) (nI F) M = some (-1) ∧ ∀ to : Nat, 4160 ≤ to → ∃ M'', fX11_fails 3 (sa M 0 (upd (ga M 0) to (-1))) = ((0 : Int32), M'') ∧ FP M M'' ∧ X_ tk' M''))) := by
  unfold fX8_mustBeFarmer lt_
  rcases name_G h with ⟨w, hw, q1, q2, q3, q4⟩ | ⟨tk', M', q1, q2, q3, q4, q5, q6⟩
  · obtain ⟨r, f1, f2, f3⟩ := find_eq hF hb8 h8 hN (okw_okl hw) q4
    rw [q1]
    dsimp only
    rw [if_neg (by decide), q3, f1, bs]
    rcases f3 with rfl | ⟨f, hf, rfl⟩
    · right
      rw [show gi (si tk 11 (-1)) 11 = -1 from rfl, if_pos rfl]
      have hG2 : G t N e (si tk 11 (-1)) M := G_T h (Or.inr rfl) _
      obtain ⟨tk', M', z1, z2, z3, z4, z5⟩ := fail_G hG2 (k := 3) (by decide) (by decide)
      rw [show (3 : Int32) = nI 3 from rfl, z1]
      refine ⟨tk', M', rfl, FK_trans (FK_si _ (by decide) _) z3, z4, z5, Or.inr ⟨q2, f2, fun to hto => ?_⟩⟩
      have hG3 : G t N e (si tk 11 (-1)) (sa M 0 (upd (ga M 0) to (-1))) := G_M hG2 (fun _ _ _ => rfl) rfl
      obtain ⟨tk2, M2, y1, y2, y3, y4, y5⟩ := fail_G hG3 (k := 3) (by decide) (by decide)
      rw [z1] at y1
      have e1 : tk' = tk2 := congrArg Prod.snd y1
      subst e1
      exact ⟨M2, y2, FP_trans (FP_up M hto _) y4, y5⟩
    · left
      rw [show gi (si tk 11 (nI f)) 11 = nI f from rfl, if_neg (nI_m1 (by omega))]
      exact ⟨f, hf, rfl, q2, f2⟩
  · right
    rw [q1]
    exact ⟨tk', M', rfl, q4, q5, q6, Or.inl ⟨q2, q3⟩⟩
theorem old_G {t : Nat → Int32} {N e : Nat} {tk M b : Rc} (h : G t N e tk M) {F base to : Nat} (hF : F ≤ 8) (hb8 : base + 8 ≤ 48) (h8 : gi b 8 = nI F) (hN : NM b M F base) (h3 : 4160 ≤ to) (h4 : to < 6240) : (∃ (tk' M' : Rc) (f : Nat), f < F ∧ fX8_passFarmer tk b = some ((1 : Int32), tk') ∧ fX11_oldOne (nI base) (nI F) (nI to) M = some ((1 : Int32), M') ∧ FC (si tk 11 (nI f)) tk' ∧ FA (sa M 0 (upd (ga M 0) to (nI f))) M' ∧ ∃ e', e ≤ e' ∧ G t N e' tk' M') ∨ BADR tk M (fX8_passFarmer tk b) (fX11_oldOne (nI base) (nI F) (nI to) M) := by
  unfold fX8_passFarmer fX11_oldOne lt_
  rcases must_G h hF hb8 h8 hN with ⟨f, hf, q1, q2, q3⟩ | ⟨tk', M', q1, q2, q3, q4, q5⟩
  · rw [q1, q2, bs, bs]
    dsimp only
    rw [if_neg (by decide), if_neg (by decide), q3, bs, gd_pos (inbn h4 (by decide)), nI_clamp (by omega), ga_sa0, upd_eq, if_neg (nI_m1 (by omega))]
    have hG2 : G t N e (si tk 11 (nI f)) (sa M 0 (upd (ga M 0) to (nI f))) := G_M (G_T h (Or.inr rfl) (nI f)) (fun _ _ _ => rfl) rfl
    obtain ⟨tk', M', m1, fa, fk, ⟨w1, fc, e', he, -, hG3⟩ | ⟨w1, hY⟩⟩ := adv_G hG2
    · rw [m1, w1]
      exact Or.inl ⟨tk', M', f, hf, rfl, rfl, fc, fa, e', he, hG3⟩
    · rw [m1, w1]
      exact Or.inr ⟨tk', M', rfl, FK_trans (FK_si _ (by decide) _) fk, FP_trans (FP_up M h3 _) (FA_FP fa), Or.inl ⟨rfl, hY⟩⟩
  · right
    rw [q1, bs]
    dsimp only
    rw [if_pos rfl]
    rcases q5 with ⟨z1, z2⟩ | ⟨z1, z2, z3⟩
    · rw [z1, bs, if_pos rfl, z2]
      exact ⟨tk', M', rfl, q2, q3, Or.inr ⟨rfl, q4⟩⟩
    · obtain ⟨M'', y1, y2, y3⟩ := z3 to h3
      rw [z1, bs, if_neg (show ¬ (1 : Int32) = 0 by decide), z2, bs, gd_pos (inbn h4 (by decide)), nI_clamp (by omega)]
      rw [ga_sa0, upd_eq, if_pos rfl, y1]
      exact ⟨tk', M'', rfl, q2, y2, Or.inr ⟨rfl, y3⟩⟩
/-! the reference at a token that is none -/
theorem word_Y {tk M : Rc} (h : Y_ tk M) {c : Int32} (hc : ¬ c = -1) : ∃ M', fX11_wantWord c M = some ((0 : Int32), M') ∧ FP M M' ∧ X_ tk M' := by
  obtain ⟨M', q1, q2, q3⟩ := fails_Y h 2
  refine ⟨M', ?_, q2, q3⟩
  unfold fX11_wantWord lt_
  rw [inWords_bad h.2.2.1, bs, if_neg (fun z => hc z.symm), q1]
theorem sign_Y {tk M : Rc} (h : Y_ tk M) (c : Int32) : ∃ M', fX11_wantSign c M = some ((0 : Int32), M') ∧ FP M M' ∧ X_ tk M' := by
  obtain ⟨M', q1, q2, q3⟩ := fails_Y h 2
  refine ⟨M', ?_, q2, q3⟩
  unfold fX11_wantSign fX11_isSign lt_
  rw [h.2.2.1, if_neg (show ¬ (1 : Int32) = 4 by decide), if_pos rfl, q1]
theorem num_Y {tk M : Rc} (h : Y_ tk M) (a b c : Int32) : ∃ M', fX11_number a b c M = some ((0 : Int32), M') ∧ FP M M' ∧ X_ tk M' := by
  obtain ⟨M', q1, q2, q3⟩ := fails_Y h 2
  refine ⟨M', ?_, q2, q3⟩
  unfold fX11_number lt_
  rw [h.2.2.1, if_neg (by decide), q1]
theorem old_Y {tk M : Rc} (h : Y_ tk M) (a b c : Int32) : ∃ M', fX11_oldOne a b c M = some ((0 : Int32), M') ∧ FP M M' ∧ X_ tk M' := by
  obtain ⟨M', q1, q2, q3⟩ := fails_Y h 2
  refine ⟨M', ?_, q2, q3⟩
  unfold fX11_oldOne lt_
  rw [isName_Y h, bs, if_pos rfl, q1]
theorem there_Y {tk M : Rc} (h : Y_ tk M) {c : Int32} (hc : ¬ c = -1) : fX11_isThere c M = some ((0 : Int32), M) := by
  unfold fX11_isThere
  rw [inWords_bad h.2.2.1, bs, if_neg (fun z => hc z.symm)]
/-- a word that may stand here -/
theorem there_G {t : Nat → Int32} {N e : Nat} {tk M : Rc} (h : G t N e tk M) {j : Nat} (hj : j < 30) : (gi tk 8 = nI j ∧ ∃ (tk' M' : Rc), fX11_isThere (nI (rk j)) M = some ((1 : Int32), M') ∧ FA M M' ∧ FK tk tk' ∧ ((fX8_advance tk = some ((1 : Int32), tk') ∧ FC tk tk' ∧ ∃ e', e ≤ e' ∧ G t N e' tk' M') ∨ (fX8_advance tk = some ((0 : Int32), tk') ∧ Y_ tk' M'))) ∨ (¬ gi tk 8 = nI j ∧ fX11_isThere (nI (rk j)) M = some ((0 : Int32), M)) := by
  obtain ⟨hk, h4, hkw, hin⟩ := G_tok h
  unfold fX11_isThere
  rw [hin, bs]
  by_cases c : gi tk 8 = nI j
  · left
    rw [if_pos ((rki_eq hkw hj rfl).mpr c)]
    obtain ⟨tk', M', m1, fa, fk, ⟨q1, fc, e', he, -, hG⟩ | ⟨q1, hY⟩⟩ := adv_G h
    · exact ⟨c, tk', M', by rw [m1]; rfl, fa, fk, Or.inl ⟨q1, fc, e', he, hG⟩⟩
    · exact ⟨c, tk', M', by rw [m1]; rfl, fa, fk, Or.inr ⟨q1, hY⟩⟩
  · right
    rw [if_neg (fun z => c ((rki_eq hkw hj rfl).mp z))]
    exact ⟨c, rfl⟩
