/-! ===== (B) texts: words, names ===== -/
def kiL : List Nat := [0, 7, 8, 9, 1, 2, 3, 4, 5, 6, 10, 11, 12, 13, 14, 16, 15, 17, 18, 20, 21, 22, 19, 23, 27, 28, 29, 24, 25, 26]
def rkL : List Nat := [0, 4, 5, 6, 7, 8, 9, 1, 2, 3, 10, 11, 12, 13, 14, 16, 15, 17, 18, 22, 19, 20, 21, 23, 27, 28, 29, 24, 25, 26]
def ki (n : Nat) : Nat := kiL.getD n 0
def rk (n : Nat) : Nat := rkL.getD n 0
/-- the reference's words -/
def rkl (n : Nat) : List Nat := kwl (ki n)
def stp : Nat → Nat
  | 0 => 1
  | n + 1 => stp n + (rkl n).length + 1
theorem stp_succ (n : Nat) : stp (n + 1) = stp n + (rkl n).length + 1 := rfl
theorem rk_ki : ∀ n, n < 30 → rk (ki n) = n ∧ ki n < 30 := by decide +kernel
theorem ki_rk : ∀ n, n < 30 → ki (rk n) = n ∧ rk n < 30 := by decide +kernel
theorem stp_30 : stp 30 = 167 := by decide +kernel
theorem stp_lt : ∀ n, n < 30 → stp n + (rkl n).length < 167 ∧ 1 ≤ (rkl n).length ∧ (rkl n).length ≤ 8 := by decide +kernel
theorem word_end : ∀ n, n < 30 → loopO fX11_inWords_L25 12 (nI (stp n)) = some (nI (stp n + (rkl n).length)) := by
  unfold fX11_inWords_L25
  decide +kernel
theorem word_char : ∀ n, n < 30 → ∀ j, j < 8 → j < (rkl n).length → chv by1 (nI (stp n + j)) = nI ((rkl n).getD j 0 + 96) ∧ (rkl n).getD j 0 ≤ 26 := by decide +kernel
theorem wl_get (t : Nat → Int32) (a : Nat) : ∀ {n j : Nat}, j < n → (wl t a n).getD j 0 = lt1 t (a + j) := by
  intro n
  induction n with
  | zero => intro j hj; exact absurd hj (Nat.not_lt_zero j)
  | succ n ih =>
    intro j hj
    rw [wl_succ, List.getD_eq_getElem?_getD, List.getElem?_append, wl_len]
    rcases Nat.lt_or_ge j n with q | q
    · rw [if_pos q, ← List.getD_eq_getElem?_getD]
      exact ih q
    · have e : j = n := by omega
      subst e
      rw [if_neg (Nat.lt_irrefl _), Nat.sub_self]
      rfl
theorem list_eq {l m : List Nat} (h : l.length = m.length) (h2 : ∀ j, j < l.length → l.getD j 0 = m.getD j 0) : l = m := by
  apply List.ext_getElem h
  intro i h3 h4
  have := h2 i h3
  simp only [List.getD_eq_getElem?_getD, List.getElem?_eq_getElem h3, List.getElem?_eq_getElem h4, Option.getD_some] at this
  exact this
theorem bs {α β : Type} (a : α) (f : α → Option β) : (some a).bind f = f a := rfl
def kwr (x : Int32) : Prop := x = -1 ∨ ∃ i, i < 30 ∧ x = nI i
def rki (x : Int32) : Int32 := if x = -1 then -1 else nI (rk x.toInt.toNat)
theorem rki_m1 : rki (-1) = -1 := rfl
theorem rki_n {i : Nat} (h : i < 30) : rki (nI i) = nI (rk i) := by
  unfold rki
  rw [if_neg (nI_m1 (by omega)), nI_toInt (by omega)]
  rfl
theorem rk_inj : ∀ i, i < 30 → ∀ j, j < 30 → (rk i = rk j ↔ i = j) := by decide +kernel
theorem rki_eq {x : Int32} (hx : kwr x) {j : Nat} (hj : j < 30) {c : Int32} (hc : c = nI (rk j)) : rki x = c ↔ x = nI j := by
  have hr := (ki_rk j hj).2
  rcases hx with rfl | ⟨i, hi, rfl⟩
  · rw [hc]
    exact ⟨fun z => absurd z.symm (nI_m1 (by omega)), fun z => absurd z.symm (nI_m1 (by omega))⟩
  · have hri := (ki_rk i hi).2
    rw [rki_n hi, hc, nI_eq (by omega) (by omega), nI_eq (by omega) (by omega)]
    exact rk_inj i hi j hj
theorem tok_kwr {t : Nat → Int32} {N a e : Nat} {tk M : Rc} (h : TOK t N tk M a e) : kwr (gi tk 8) := by
  obtain ⟨-, -, -, -, -, -, h⟩ := h
  rcases h with ⟨-, -, h8, -⟩ | ⟨-, -, -, -, ⟨-, -, h8⟩ | ⟨-, -, h8⟩⟩ | ⟨-, -, h8, -⟩ | ⟨-, -, h8, -⟩
  · exact Or.inl h8
  · rcases h8 with ⟨i, hi, -, e⟩ | ⟨-, e⟩
    · exact Or.inr ⟨i, hi, e⟩
    · exact Or.inl e
  · exact Or.inl h8
  · exact Or.inl h8
  · exact Or.inl h8
/-- one word of the reference's list against the token -/
theorem word_cmp {t : Nat → Int32} {N a e : Nat} {tk M : Rc} (hT : TX t N tk M) (hae : a < e) (heN : e ≤ N) (h13 : gi M 13 = nI a) (hall : ∀ k, a ≤ k → k < e → kd (t k) = 1) {n : Nat} (hn : n < 30) (z : Int32) (hz : (z = 1 ∧ (rkl n).length = e - a) ∨ (z = 0 ∧ ¬ (rkl n).length = e - a)) : ∃ r, loopF (fX11_inWords_L68 M (nI n, nI (stp n)) (nI (stp n + (rkl n).length))) (z, nI (stp n)) = some r ∧ ((r = 1 ∧ rkl n = wl t a (e - a)) ∨ (r = 0 ∧ ¬ rkl n = wl t a (e - a))) := by
  have hN : N ≤ 900 := hT.2.2.2.1
  have hb := hT.2.2.2.2.2.1
  obtain ⟨s1, s2, s3⟩ := stp_lt n hn
  rcases hz with ⟨rfl, hlen⟩ | ⟨rfl, hlen⟩
  · obtain ⟨r, l, hr⟩ := loop_one (b := fX11_inWords_L68 M (nI n, nI (stp n)) (nI (stp n + (rkl n).length))) (fun d s => s.2 = nI (stp n + d) ∧ ((s.1 = 1 ∧ ∀ j, j < d → (rkl n).getD j 0 = lt1 t (a + j)) ∨ (s.1 = 0 ∧ ∃ j, j < d ∧ ¬ (rkl n).getD j 0 = lt1 t (a + j)))) (fun r => (r = 1 ∧ ∀ j, j < (rkl n).length → (rkl n).getD j 0 = lt1 t (a + j)) ∨ (r = 0 ∧ ∃ j, j < (rkl n).length ∧ ¬ (rkl n).getD j 0 = lt1 t (a + j))) (rkl n).length (fun d s hd h => by
        obtain ⟨s1', s2'⟩ := s
        obtain ⟨h1, h2⟩ := h
        dsimp only at h1 h2
        subst h1
        unfold fX11_inWords_L68
        dsimp only
        rw [if_neg (nI_ge (show stp n + d < stp n + (rkl n).length by omega) (by omega))]
        rcases h2 with ⟨rfl, hall2⟩ | ⟨rfl, j, hj, hne⟩
        · left
          obtain ⟨c1, c2⟩ := word_char n hn d (by omega) hd
          have hka := hall (a + d) (by omega) (by omega)
          obtain ⟨z1, z2, z3⟩ := lt1_ok (hb (a + d)) hka
          have ei : (gi M 13 + nI (stp n + d)) - nI (stp n) = nI (a + d) := by
            rw [h13, nI_add]
            apply i_ext
            have y1 : (nI (a + (stp n + d))).toInt = ((a + (stp n + d) : Nat) : Int) := nI_toInt (by omega)
            have y2 : (nI (stp n)).toInt = (stp n : Int) := nI_toInt (by omega)
            rw [i_sub (by omega) (by omega), y1, y2, nI_toInt (by omega)]
            omega
          have er : rb_ (t (a + d)) = nI (lt1 t (a + d) + 96) := by
            rw [(kd_facts (hb (a + d))).2.2.2.2.2.2.1 (by rw [hka]; decide)]
            apply i_ext
            rw [z1, nI_toInt (by omega)]
            omega
          rw [if_neg (by decide), gd_pos (inbn (by omega) (by decide)), ei, byteAt_in hT (by omega), er, c1]
          dsimp only [Option.bind]
          rw [nI_1]
          by_cases c : (rkl n).getD d 0 = lt1 t (a + d)
          · rw [if_pos (by rw [c])]
            refine ⟨_, rfl, rfl, Or.inl ⟨rfl, fun j hj => ?_⟩⟩
            rcases Nat.lt_or_ge j d with q | q
            · exact hall2 j q
            · rw [show j = d by omega]; exact c
          · rw [if_neg (fun w => c (by have := (nI_eq (by omega) (by omega)).mp w; omega))]
            exact ⟨_, rfl, rfl, Or.inr ⟨rfl, d, by omega, c⟩⟩
        · right
          rw [if_pos rfl]
          exact ⟨_, rfl, Or.inr ⟨rfl, j, by omega, hne⟩⟩) (fun s h => by
        obtain ⟨s1', s2'⟩ := s
        obtain ⟨h1, h2⟩ := h
        dsimp only at h1 h2
        subst h1
        unfold fX11_inWords_L68
        dsimp only
        rw [if_pos (nI_le (Nat.le_refl _) (by omega))]
        exact ⟨_, rfl, h2⟩) (rkl n).length 0 ((1 : Int32), nI (stp n)) (by omega) ⟨rfl, Or.inl ⟨rfl, fun j hj => absurd hj (Nat.not_lt_zero j)⟩⟩
    refine ⟨r, l, ?_⟩
    rcases hr with ⟨rfl, h⟩ | ⟨rfl, j, hj, hne⟩
    · left
      refine ⟨rfl, list_eq (by rw [wl_len]; exact hlen) (fun j hj => ?_)⟩
      rw [wl_get t a (by omega)]; exact h j hj
    · right
      refine ⟨rfl, fun w => hne ?_⟩
      rw [w, wl_get t a (by omega)]
  · refine ⟨0, loopF_stop ?_, Or.inr ⟨rfl, fun w => hlen (by rw [w, wl_len])⟩⟩
    unfold fX11_inWords_L68
    dsimp only
    rw [if_neg (nI_ge (show stp n < stp n + (rkl n).length by omega) (by omega)), if_pos rfl]
theorem inWords_word {t : Nat → Int32} {N a e : Nat} {tk M : Rc} (hT : TX t N tk M) (hae : a < e) (heN : e ≤ N) (h12 : gi M 12 = 2) (h13 : gi M 13 = nI a) (h14 : gi M 14 = nI e) (hall : ∀ k, a ≤ k → k < e → kd (t k) = 1) : (∃ n, n < 30 ∧ rkl n = wl t a (e - a) ∧ fX11_inWords M = some (nI n)) ∨ ((∀ n, n < 30 → ¬ rkl n = wl t a (e - a)) ∧ fX11_inWords M = some (-1)) := by
  have hN : N ≤ 900 := hT.2.2.2.1
  obtain ⟨r, l, hr⟩ := loop_one (b := fX11_inWords_L14 M) (fun n s => s = (nI n, nI (stp n)) ∧ ∀ m, m < n → ¬ rkl m = wl t a (e - a)) (fun r => (∃ n, n < 30 ∧ rkl n = wl t a (e - a) ∧ r = .inl (nI n)) ∨ ((∀ n, n < 30 → ¬ rkl n = wl t a (e - a)) ∧ r = .inr ())) 30 (fun n s hn h => by
      obtain ⟨rfl, h2⟩ := h
      obtain ⟨s1, s2, s3⟩ := stp_lt n hn
      unfold fX11_inWords_L14 fX11_inWords_J63 fX11_inWords_J115 lt_
      dsimp only
      rw [if_neg (show ¬ (167 : Int32) ≤ nI (stp n) from nI_ge (b := 167) (by omega) (by decide)), loopF_of (word_end n hn), h13, h14, bs]
      have d1 : nI (stp n + (rkl n).length) - nI (stp n) = nI (rkl n).length := by
        apply i_ext
        have y1 : (nI (stp n + (rkl n).length)).toInt = ((stp n + (rkl n).length : Nat) : Int) := nI_toInt (by omega)
        have y2 : (nI (stp n)).toInt = (stp n : Int) := nI_toInt (by omega)
        rw [i_sub (by omega) (by omega), y1, y2, nI_toInt (by omega)]
        omega
      have d2 : nI e - nI a = nI (e - a) := by
        apply i_ext
        have y1 : (nI e).toInt = (e : Int) := nI_toInt (by omega)
        have y2 : (nI a).toInt = (a : Int) := nI_toInt (by omega)
        rw [i_sub (by omega) (by omega), y1, y2, nI_toInt (by omega)]
        omega
      rw [d1, d2, nI_1, nI_1]
      have fin : ∀ z : Int32, ((z = 1 ∧ (rkl n).length = e - a) ∨ (z = 0 ∧ ¬ (rkl n).length = e - a)) → (∃ s', ((loopF (fX11_inWords_L68 M (nI n, nI (stp n)) (nI (stp n + (rkl n).length))) (z, nI (stp n))).bind (fun o68 => if o68 = (0 : Int32) then some (Sum.inl (nI (n + 1), nI (stp n + (rkl n).length + 1))) else some (Sum.inr (Sum.inl (β := Unit) (nI n))))) = some (Sum.inl s') ∧ s' = (nI (n + 1), nI (stp (n + 1))) ∧ ∀ m, m < n + 1 → ¬ rkl m = wl t a (e - a)) ∨ (∃ r, ((loopF (fX11_inWords_L68 M (nI n, nI (stp n)) (nI (stp n + (rkl n).length))) (z, nI (stp n))).bind (fun o68 => if o68 = (0 : Int32) then some (Sum.inl (nI (n + 1), nI (stp n + (rkl n).length + 1))) else some (Sum.inr (Sum.inl (β := Unit) (nI n))))) = some (Sum.inr r) ∧ ((∃ n, n < 30 ∧ rkl n = wl t a (e - a) ∧ r = .inl (nI n)) ∨ ((∀ n, n < 30 → ¬ rkl n = wl t a (e - a)) ∧ r = .inr ()))) := by
        intro z hz
        obtain ⟨r, l, hr⟩ := word_cmp hT hae heN h13 hall hn z hz
        rw [l, bs]
        rcases hr with ⟨rfl, w⟩ | ⟨rfl, w⟩
        · right
          rw [if_neg (by decide)]
          exact ⟨_, rfl, Or.inl ⟨n, hn, w, rfl⟩⟩
        · left
          rw [if_pos rfl]
          refine ⟨_, rfl, rfl, fun m hm => ?_⟩
          rcases Nat.lt_or_ge m n with q | q
          · exact h2 m q
          · rw [show m = n by omega]; exact w
      by_cases c : (rkl n).length = e - a
      · rw [if_pos (show nI (rkl n).length = nI (e - a) by rw [c])]
        exact fin 1 (Or.inl ⟨rfl, c⟩)
      · rw [if_neg (fun w => c ((nI_eq (by omega) (by omega)).mp w))]
        exact fin 0 (Or.inr ⟨rfl, c⟩)) (fun s h => by
      obtain ⟨rfl, h2⟩ := h
      unfold fX11_inWords_L14
      dsimp only
      rw [stp_30, if_pos (show (167 : Int32) ≤ nI 167 by decide)]
      exact ⟨_, rfl, Or.inr ⟨h2, rfl⟩⟩) 30 0 ((0 : Int32), (1 : Int32)) (by omega) ⟨rfl, fun m hm => absurd hm (Nat.not_lt_zero m)⟩
  unfold fX11_inWords
  rw [h12, if_pos rfl, l]
  rcases hr with ⟨n, hn, w, rfl⟩ | ⟨w, rfl⟩
  · exact Or.inl ⟨n, hn, w, rfl⟩
  · exact Or.inr ⟨w, rfl⟩
theorem inWords_eq {t : Nat → Int32} {N a e : Nat} {tk M : Rc} (hT : TX t N tk M) (h : TOK t N tk M a e) : fX11_inWords M = some (rki (gi tk 8)) := by
  obtain ⟨hae, heN, h4, h5, h13, h14, h⟩ := h
  rcases h with ⟨-, h12, h8, -⟩ | ⟨-, h12, hlt, hall, hw⟩ | ⟨-, h12, h8, -⟩ | ⟨-, h12, h8, -⟩
  · unfold fX11_inWords
    rw [h12, h8, if_neg (by decide)]; rfl
  · have nokw : (∀ i, i < 30 → ¬ kwl i = wl t a (e - a)) → ∀ n, n < 30 → ¬ rkl n = wl t a (e - a) := fun q n hn w => q (ki n) (rk_ki n hn).2 w
    rcases hw with ⟨c8, h7, ⟨i, hi, hiw, h8⟩ | ⟨hno, h8⟩⟩ | ⟨c8, h7, h8⟩
    · rcases inWords_word hT hlt heN h12 h13 h14 hall with ⟨n, hn, w, e1⟩ | ⟨w, e1⟩
      · have : ki n = i := kw_dist _ (rk_ki n hn).2 _ hi (show kwl (ki n) = kwl i from w.trans hiw.symm)
        rw [e1, h8, rki_n hi, ← this, (rk_ki n hn).1]
      · exact absurd (show rkl (rk i) = _ by unfold rkl; rw [(ki_rk i hi).1]; exact hiw) (w (rk i) (ki_rk i hi).2)
    · rcases inWords_word hT hlt heN h12 h13 h14 hall with ⟨n, hn, w, e1⟩ | ⟨w, e1⟩
      · exact absurd w (nokw hno n hn)
      · rw [e1, h8]; rfl
    · rcases inWords_word hT hlt heN h12 h13 h14 hall with ⟨n, hn, w, e1⟩ | ⟨w, e1⟩
      · have := (stp_lt n hn).2.2
        rw [w, wl_len] at this
        omega
      · rw [e1, h8]; rfl
  · unfold fX11_inWords
    rw [h12, h8, if_neg (by decide)]; rfl
  · unfold fX11_inWords
    rw [h12, h8, if_neg (by decide)]; rfl
theorem inWords_bad {M : Rc} (h : gi M 12 = 1) : fX11_inWords M = some (-1) := by
  unfold fX11_inWords
  rw [h, if_neg (by decide)]
/-- the name here -/
theorem nameHere_eq {t : Nat → Int32} {N a e : Nat} {tk M : Rc} (hT : TX t N tk M) (hae : a ≤ e) (heN : e ≤ N) (h13 : gi M 13 = nI a) (h14 : gi M 14 = nI e) (hall : ∀ k, a ≤ k → k < e → kd (t k) = 1) : fX11_nameHere M = some (pk8 (wl t a (e - a))) := by
  have hN : N ≤ 900 := hT.2.2.2.1
  have hb := hT.2.2.2.2.2.1
  have r := loopF_run (b := fX11_nameHere_L7 M) (fun i => (pk8 (wl t a i), nI (a + i))) (e - a) (r := pk8 (wl t a (e - a))) (fun i hi => by
      have hka := hall (a + i) (by omega) (by omega)
      obtain ⟨z1, z2, z3⟩ := lt1_ok (hb (a + i)) hka
      have er : rb_ (t (a + i)) = nI (lt1 t (a + i) + 96) := by
        rw [(kd_facts (hb (a + i))).2.2.2.2.2.2.1 (by rw [hka]; decide)]
        apply i_ext
        rw [z1, nI_toInt (by omega)]
        omega
      unfold fX11_nameHere_L7 lt_
      dsimp only
      rw [h14, if_neg (nI_ge (by omega) (by omega)), byteAt_in hT (by omega), er]
      dsimp only [Option.bind]
      rw [nI_l (by omega), nI_1, show (8 : Int32) = nI 8 from rfl]
      show some (Sum.inl ((lN (n8 (wl t a i)) <<< ((nI 8).toInt64 &&& 63)) ||| lN (lt1 t (a + i) + 96), nI (a + i + 1))) = some (Sum.inl (lN (n8 (wl t a (i + 1))), nI (a + (i + 1))))
      rw [or_add _ (k := 8) (B := 256) rfl (by decide) (by omega), wl_succ, n8_snoc]
      rfl) (by
      unfold fX11_nameHere_L7
      dsimp only
      rw [h14, if_pos (by rw [show a + (e - a) = e by omega]; exact nI_le (Nat.le_refl _) (by omega))])
  unfold fX11_nameHere lt_
  dsimp only
  rw [h13, show ((0 : Int64), nI a) = (pk8 (wl t a 0), nI (a + 0)) from rfl, r]
  rfl
/-- names of the class' bench and the reference's, from a place on -/
def NM (b M : Rc) (F base : Nat) : Prop := ∀ f, f < F → ∃ u, okw u ∧ gb b 0 f = pk5 u ∧ gb M 1 (base + f) = pk8 u
theorem okw_okl {u : List Nat} (h : okw u) : okl u := ⟨h.2.1, h.2.2⟩
theorem find_eq {b M : Rc} {F base : Nat} (hF : F ≤ 8) (hb8 : base + 8 ≤ 48) (h8 : gi b 8 = nI F) (hN : NM b M F base) {w : List Nat} (hw : okl w) (hn : fX11_nameHere M = some (pk8 w)) : ∃ r, fX0_farmerNamed (pk5 w) b = some r ∧ fX11_findHere (nI base) (nI F) M = some r ∧ (r = -1 ∨ ∃ f, f < F ∧ r = nI f) := by
  obtain ⟨r, k, l1, l2, hr⟩ := loop_rel (b := fX0_farmerNamed_L2 (pk5 w) b) (c := fX11_findHere_L2 (nI base) (nI F) M) (fun i s u => s = nI i ∧ u = nI i) (fun r k => (∃ f, f < F ∧ r = .inl (nI f) ∧ k = .inl (nI f)) ∨ (r = .inr () ∧ k = .inr ())) F (fun i s u hi h => by
      obtain ⟨rfl, rfl⟩ := h
      obtain ⟨v, v1, v2, v3⟩ := hN i hi
      unfold fX0_farmerNamed_L2 fX11_findHere_L2
      rw [h8, if_neg (nI_ge hi (by omega)), if_neg (nI_ge hi (by omega)), gd_pos (inbn (by omega) (by decide)), nI_clamp (by omega), nI_add, gd_pos (inbn (by omega) (by decide)), nI_clamp (by omega), hn, v2, v3]
      dsimp only [Option.bind]
      rw [nI_1]
      by_cases c : v = w
      · right
        rw [if_pos ((pk5_inj (okw_okl v1) hw).mpr c), if_pos ((pk8_inj (okw_okl v1) hw).mpr c)]
        exact ⟨_, _, rfl, rfl, Or.inl ⟨i, hi, rfl, rfl⟩⟩
      · left
        rw [if_neg (fun z => c ((pk5_inj (okw_okl v1) hw).mp z)), if_neg (fun z => c ((pk8_inj (okw_okl v1) hw).mp z))]
        exact ⟨_, _, rfl, rfl, rfl, rfl⟩) (fun s u h => by
      obtain ⟨rfl, rfl⟩ := h
      unfold fX0_farmerNamed_L2 fX11_findHere_L2
      rw [h8, if_pos (nI_le (Nat.le_refl _) (by omega)), if_pos (nI_le (Nat.le_refl _) (by omega))]
      exact ⟨_, _, rfl, rfl, Or.inr ⟨rfl, rfl⟩⟩) F 0 (0 : Int32) (0 : Int32) (by omega) ⟨rfl, rfl⟩
  unfold fX0_farmerNamed fX11_findHere
  rw [l1, l2]
  rcases hr with ⟨f, hf, rfl, rfl⟩ | ⟨rfl, rfl⟩
  · exact ⟨nI f, rfl, rfl, Or.inr ⟨f, hf, rfl⟩⟩
  · exact ⟨-1, rfl, rfl, Or.inl rfl⟩
