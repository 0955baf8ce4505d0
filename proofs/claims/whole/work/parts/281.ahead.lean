/-! ===== (B) texts: the next token, on both sides ===== -/
def kwl (i : Nat) : List Nat := kw.getD i []
theorem kw_ok : ∀ i, i < 30 → (kwl i).length ≤ 8 ∧ 1 ≤ (kwl i).length ∧ (kwl i).all (fun c => decide (1 ≤ c ∧ c ≤ 26)) = true := by decide +kernel
theorem kwl_okl {i : Nat} (h : i < 30) : okl (kwl i) := by
  obtain ⟨h1, -, h3⟩ := kw_ok i h
  exact ⟨h1, fun c hc => of_decide_eq_true (List.all_eq_true.mp h3 c hc)⟩
theorem kw_dist : ∀ i, i < 30 → ∀ j, j < 30 → kwl i = kwl j → i = j := by decide +kernel
/-- the number of a keyword, none: -1 -/
def kwi (w : List Nat) (x : Int32) : Prop := (∃ i, i < 30 ∧ kwl i = w ∧ x = nI i) ∨ ((∀ i, i < 30 → ¬ kwl i = w) ∧ x = -1)
/-- the token that is looked at -/
def TOK (t : Nat → Int32) (N : Nat) (tk M : Rc) (a e : Nat) : Prop := a ≤ e ∧ e ≤ N ∧ gi tk 4 = nI a ∧ gi tk 5 = nI e ∧ gi M 13 = nI a ∧ gi M 14 = nI e ∧
  ((gi tk 6 = 0 ∧ gi M 12 = 0 ∧ gi tk 8 = -1 ∧ gi M 15 = -1) ∨
   (gi tk 6 = 1 ∧ gi M 12 = 2 ∧ a < e ∧ (∀ k, a ≤ k → k < e → kd (t k) = 1) ∧ ((e - a ≤ 8 ∧ gl tk 7 = pk5 (wl t a (e - a)) ∧ kwi (wl t a (e - a)) (gi tk 8)) ∨ (8 < e - a ∧ gl tk 7 = -1 ∧ gi tk 8 = -1))) ∨
   (gi tk 6 = 2 ∧ gi M 12 = 3 ∧ gi tk 8 = -1 ∧ gi tk 9 = gi M 15 ∧ 0 ≤ (gi tk 9).toInt ∧ (gi tk 9).toInt ≤ 9999) ∨
   (gi tk 6 = 3 ∧ gi M 12 = 4 ∧ gi tk 8 = -1 ∧ gi tk 9 = gi M 15))
/-- what comes of looking at the next one: it's there, or it's none (fault 1) -/
def ADV (t : Nat → Int32) (N e0 : Nat) (tk M : Rc) (c : Option (Int32 × Rc)) (m : Option Rc) : Prop := ∃ (tk' M' : Rc), m = some M' ∧ FA M M' ∧ ((c = some ((1 : Int32), tk') ∧ FC tk tk' ∧ ∃ a e, e0 ≤ a ∧ (gi M' 12 = 0 ∨ a < e) ∧ TOK t N tk' M' a e) ∨ (c = some ((0 : Int32), tk') ∧ gi tk' 12 = 1 ∧ gi tk' 13 = gi M' 13 ∧ gi M' 12 = 1 ∧ gi tk' 2 = gi tk 2 ∧ ga tk' = ga tk ∧ gb tk' = gb tk))
theorem withL {n c : Nat} (x : Int32) (hx : x.toInt = (c : Int) + 96) (h1 : 1 ≤ c) (h2 : c ≤ 26) : fX8_withLetter (lN n) x = lN (n * 32 + c) := by
  unfold fX8_withLetter
  have e : (x - 97) + 1 = nI c := by
    apply i_ext
    have h97 : (97 : Int32).toInt = 97 := rfl
    have h11 : (1 : Int32).toInt = 1 := rfl
    rw [i_add (by rw [i_sub (by omega) (by omega)]; omega) (by rw [i_sub (by omega) (by omega)]; omega), i_sub (by omega) (by omega), nI_toInt (by omega)]
    omega
  rw [e, nI_l (by omega), show (5 : Int32) = nI 5 from rfl, or_add n (k := 5) (B := 32) rfl (by decide) (by omega)]
theorem lt1_ok {t : Nat → Int32} {k : Nat} (hb : byt (t k)) (h : kd (t k) = 1) : (t k).toInt = (lt1 t k : Int) + 96 ∧ 1 ≤ lt1 t k ∧ lt1 t k ≤ 26 := by
  have := (kd_facts hb).2.2.2.2.2.2.2.1 h
  unfold lt1
  omega
theorem n5_snoc (w : List Nat) (c : Nat) : n5 (w ++ [c]) = n5 w * 32 + c := by
  unfold n5
  rw [List.foldl_append]; rfl
theorem n8_snoc (w : List Nat) (c : Nat) : n8 (w ++ [c]) = n8 w * 256 + (c + 96) := by
  unfold n8
  rw [List.foldl_append]; rfl
theorem wl_okl {t : Nat → Int32} {a : Nat} (hb : ∀ k, byt (t k)) : ∀ {n : Nat}, (∀ k, a ≤ k → k < a + n → kd (t k) = 1) → n ≤ 8 → okl (wl t a n) := by
  intro n h hn
  refine ⟨by rw [wl_len]; exact hn, ?_⟩
  clear hn
  induction n with
  | zero => intro c hc; exact absurd hc List.not_mem_nil
  | succ n ih =>
    intro c hc
    rw [wl_succ, List.mem_append] at hc
    rcases hc with q | q
    · exact ih (fun k h1 h2 => h k h1 (by omega)) c q
    · rw [List.mem_singleton.mp q]
      obtain ⟨-, h1, h2⟩ := lt1_ok (hb _) (h (a + n) (by omega) (by omega))
      exact ⟨h1, h2⟩
/-- which keyword it is: the class looks through all -/
theorem kw_loop {tk : Rc} (hK : KWD tk) {w : List Nat} (hw : okl w) (h7 : gl tk 7 = pk5 w) (h8 : gi tk 8 = -1) : ∃ x, loopF fX8_lookAtWord_L78 ((0 : Int32), tk) = some (si tk 8 x) ∧ kwi w x := by
  obtain ⟨r, l, x, rfl, h1, h2⟩ := loop_one (b := fX8_lookAtWord_L78) (fun i s => ∃ x, s = (nI i, si tk 8 x) ∧ (∀ j, j < i → kwl j = w → x = nI j) ∧ ((∀ j, j < i → ¬ kwl j = w) → x = -1)) (fun r => ∃ x, r = si tk 8 x ∧ (∀ j, j < 30 → kwl j = w → x = nI j) ∧ ((∀ j, j < 30 → ¬ kwl j = w) → x = -1)) 30 (fun i s hi h => by
      obtain ⟨x, rfl, h1, h2⟩ := h
      left
      have hk : gb (si tk 8 x) 1 i = pk5 (kwl i) := hK i hi
      have h7' : gl (si tk 8 x) 7 = pk5 w := h7
      unfold fX8_lookAtWord_L78 lt_
      dsimp only
      rw [if_neg (show ¬ (30 : Int32) ≤ nI i from nI_ge (b := 30) hi (by decide)), gd_pos (inbn hi (by decide)), nI_clamp (by omega), hk, h7', nI_1, si_si]
      by_cases c : kwl i = w
      · rw [if_pos ((pk5_inj (kwl_okl hi) hw).mpr c)]
        refine ⟨_, rfl, nI i, rfl, fun j hj hjw => ?_, fun hn => absurd c (hn i (by omega))⟩
        rw [kw_dist j (by omega) i hi (hjw.trans c.symm)]
      · rw [if_neg (fun z => c ((pk5_inj (kwl_okl hi) hw).mp z))]
        refine ⟨_, rfl, x, rfl, fun j hj hjw => ?_, fun hn => h2 (fun j hj => hn j (by omega))⟩
        rcases Nat.lt_or_ge j i with q | q
        · exact h1 j q hjw
        · exact absurd (by rw [show i = j by omega]; exact hjw) c) (fun s h => by
      obtain ⟨x, rfl, h1, h2⟩ := h
      unfold fX8_lookAtWord_L78
      dsimp only
      rw [if_pos (show (30 : Int32) ≤ nI 30 by decide)]
      exact ⟨_, rfl, x, rfl, h1, h2⟩) 30 0 ((0 : Int32), tk) (by omega) ⟨-1, by rw [si_id tk 8 h8]; rfl, fun j hj => absurd hj (Nat.not_lt_zero j), fun _ => rfl⟩
  refine ⟨x, l, ?_⟩
  rcases Classical.em (∃ i, i < 30 ∧ kwl i = w) with ⟨i, hi, e⟩ | q
  · exact Or.inl ⟨i, hi, e, h1 i hi e⟩
  · exact Or.inr ⟨fun i hi e => q ⟨i, hi, e⟩, h2 (fun i hi e => q ⟨i, hi, e⟩)⟩
theorem adv_eq {t : Nat → Int32} {N : Nat} {tk M : Rc} (hT : TX t N tk M) {e0 : Nat} (he : e0 ≤ N) (h5 : gi tk 5 = nI e0) (h14 : gi M 14 = nI e0) : ADV t N e0 tk M (fX8_advance tk) (fX11_ahead M) := by
  have hN : N ≤ 900 := hT.2.2.2.1
  have hb := hT.2.2.2.2.2.1
  -- blanks
  obtain ⟨r, k, l1, l2, a, ha0, haN, rfl, rfl, hstop⟩ := loop_rel (b := fX8_advance_L8) (c := fX11_ahead_L0) (fun d s u => d ≤ N ∧ e0 ≤ d ∧ s = si tk 4 (nI d) ∧ u = si M 14 (nI d)) (fun r k => ∃ a, e0 ≤ a ∧ a ≤ N ∧ r = si tk 4 (nI a) ∧ k = si M 14 (nI a) ∧ (a < N → ¬ kd (t a) = 4)) N (fun d s u hd h => by
      obtain ⟨-, h0, rfl, rfl⟩ := h
      have hT' : TX t N (si tk 4 (nI d)) (si M 14 (nI d)) := TX_frame hT (FC_si _ (by omega) _) (FA_si _ (by omega) _)
      obtain ⟨-, -, -, f4, -⟩ := kd_facts (hb d)
      unfold fX8_advance_L8 fX11_ahead_L0 lt_
      rw [show gi (si tk 4 (nI d)) 3 = nI N from hT.2.1, show gi (si tk 4 (nI d)) 4 = nI d from rfl, if_neg (nI_ge hd (by omega)), gd_pos (inbn (by omega) (by decide)), nI_clamp (by omega), show ga (si tk 4 (nI d)) 0 = t from hT.1, show gi (si M 14 (nI d)) 14 = nI d from rfl, byteAt_in hT' hd]
      dsimp only [Option.bind]
      rw [si_si, si_si, nI_1]
      by_cases c : kd (t d) = 4
      · left
        rw [if_pos (show fX8_kindOf (t d) = 4 from c)]
        rcases f4.mpr c with q | q
        · rw [if_pos q]
          exact ⟨_, _, rfl, rfl, by omega, by omega, rfl, rfl⟩
        · rw [if_neg (by rw [q]; decide), if_pos q]
          exact ⟨_, _, rfl, rfl, by omega, by omega, rfl, rfl⟩
      · right
        rw [if_neg (show ¬ fX8_kindOf (t d) = 4 from c), if_neg (fun z => c (f4.mp (Or.inl z))), if_neg (fun z => c (f4.mp (Or.inr z)))]
        exact ⟨_, _, rfl, rfl, d, h0, by omega, rfl, rfl, fun _ => c⟩) (fun s u h => by
      obtain ⟨-, h0, rfl, rfl⟩ := h
      have hT' : TX t N (si tk 4 (nI N)) (si M 14 (nI N)) := TX_frame hT (FC_si _ (by omega) _) (FA_si _ (by omega) _)
      unfold fX8_advance_L8 fX11_ahead_L0
      rw [show gi (si tk 4 (nI N)) 3 = nI N from hT.2.1, show gi (si tk 4 (nI N)) 4 = nI N from rfl, if_pos (nI_le (Nat.le_refl _) (by omega)), show gi (si M 14 (nI N)) 14 = nI N from rfl, byteAt_out hT']
      exact ⟨_, _, rfl, rfl, N, h0, Nat.le_refl _, rfl, rfl, fun z => absurd z (Nat.lt_irrefl _)⟩) (N - e0) e0 (si tk 4 (nI e0)) M (by omega) ⟨he, Nat.le_refl _, rfl, by rw [si_id M 14 h14]⟩
  unfold fX8_advance fX11_ahead lt_
  dsimp only
  rw [h5, l1, l2]
  dsimp only [Option.bind]
  unfold fX8_advance_J48
  rw [show gi (si tk 4 (nI a)) 3 = nI N from hT.2.1, show gi (si tk 4 (nI a)) 4 = nI a from rfl]
  generalize hM1 : si (si M 14 (nI a)) 13 (gi (si M 14 (nI a)) 14) = M1
  have fa1 : FA M M1 := by rw [← hM1]; exact FA_trans (FA_si M (by omega) _) (FA_si _ (by omega) _)
  have m13 : gi M1 13 = nI a := by rw [← hM1]; rfl
  have m14 : gi M1 14 = nI a := by rw [← hM1]; rfl
  have hT1 : TX t N tk M1 := TX_frame hT (FC_refl _) fa1
  rw [m14]
  -- the class' state as the token is looked at
  have cls : ∀ z, ∃ tk1, tk1 = si (sl (si (si (si tk 4 (nI a)) 6 z) 5 (nI a)) 7 (-1)) 8 (-1) ∧ FC tk tk1 ∧ gi tk1 4 = nI a ∧ gi tk1 5 = nI a ∧ gi tk1 6 = z ∧ gi tk1 8 = -1 ∧ gl tk1 7 = -1 ∧ fX8_advance_J76 z (si tk 4 (nI a)) = (if gi tk1 6 = (0 : Int32) then some ((1 : Int32), tk1) else if gi tk1 6 = (1 : Int32) then (fX8_lookAtWord tk1).bind (fun r7 => some ((1 : Int32), r7)) else if gi tk1 6 = (2 : Int32) then (fX8_lookAtNumber tk1).bind (fun r9 => if ((gi r9 5) - (gi r9 4)) ≤ (4 : Int32) then some ((1 : Int32), r9) else lt_ (fX8_fail (1 : Int32) r9) (fun r11 => if r11.1 = (0 : Int32) then some ((0 : Int32), r11.2) else some ((1 : Int32), r11.2))) else if gi tk1 6 = (3 : Int32) then gd (inb (gi tk1 4) 900) (lt_ (si tk1 9 (ga tk1 0 (gi tk1 4).toNatClampNeg)) (fun s0_16 => lt_ (si s0_16 5 ((gi s0_16 5) + (1 : Int32))) (fun s0_17 => some ((1 : Int32), s0_17)))) else lt_ (fX8_fail (1 : Int32) tk1) (fun r18 => some (r18.1, r18.2))) := by
    intro z
    exact ⟨_, rfl, FC_trans (FC_si _ (by omega) _) (FC_trans (FC_si _ (by omega) _) (FC_trans (FC_si _ (by omega) _) (FC_trans (FC_sl _ _ _) (FC_si _ (by omega) _)))), rfl, rfl, rfl, rfl, rfl, rfl⟩
  rcases Nat.lt_or_ge a N with haN' | haN'
  · -- a byte
    have hnb := hstop haN'
    obtain ⟨f1, f2, f3, f4, f5, f6, f7, f8, f9⟩ := kd_facts (hb a)
    rw [if_neg (nI_ge haN' (by omega)), gd_pos (inbn (by omega) (by decide)), nI_clamp (by omega), show ga (si tk 4 (nI a)) 0 = t from hT.1, byteAt_in hT1 haN']
    dsimp only
    obtain ⟨tk1, -, fc1, g4, g5, g6, g8, g7, hJ⟩ := cls (fX8_kindOf (t a))
    rw [hJ, g6]
    generalize hM2 : si M1 15 (rb_ (t a)) = M2
    have fa2 : FA M M2 := by rw [← hM2]; exact FA_trans fa1 (FA_si _ (by omega) _)
    have p13 : gi M2 13 = nI a := by rw [← hM2]; exact m13
    have p14 : gi M2 14 = nI a := by rw [← hM2]; exact m14
    have p15 : gi M2 15 = rb_ (t a) := by rw [← hM2]; rfl
    have hT2 : TX t N tk1 M2 := TX_frame hT fc1 fa2
    rw [if_neg f6, f1, f2]
    have hk : fX8_kindOf (t a) = kd (t a) := rfl
    rw [hk]
    rcases f5 with k1 | k1 | k1 | k1 | k1
    · -- a word
      rw [k1, if_neg (by decide), if_pos rfl, decide_eq_true rfl, if_neg (show ¬ b1 true = 0 by decide)]
      obtain ⟨r, k, w1, w2, e, x, he1, heN, rfl, rfl, hall, hx⟩ := loop_rel (b := fX8_lookAtWord_L2) (c := fX11_ahead_L81) (fun d s u => a ≤ d ∧ d ≤ N ∧ ∃ x, s = (x, si tk1 5 (nI d)) ∧ u = si M2 14 (nI d) ∧ (∀ k, a ≤ k → k < d → kd (t k) = 1) ∧ (d - a ≤ 8 → x = pk5 (wl t a (d - a)))) (fun r k => ∃ e x, a < e ∧ e ≤ N ∧ r = (x, si tk1 5 (nI e)) ∧ k = si M2 14 (nI e) ∧ (∀ k, a ≤ k → k < e → kd (t k) = 1) ∧ (e - a ≤ 8 → x = pk5 (wl t a (e - a)))) N (fun d s u hd h => by
          obtain ⟨h0, -, x, rfl, rfl, hall, hx⟩ := h
          have hT' : TX t N (si tk1 5 (nI d)) (si M2 14 (nI d)) := TX_frame hT2 (FC_si _ (by omega) _) (FA_si _ (by omega) _)
          obtain ⟨q1, -⟩ := kd_facts (hb d)
          unfold fX8_lookAtWord_L2 fX11_ahead_L81 lt_
          dsimp only
          rw [show gi (si tk1 5 (nI d)) 3 = nI N from hT2.2.1, show gi (si tk1 5 (nI d)) 5 = nI d from rfl, if_neg (nI_ge hd (by omega)), gd_pos (inbn (by omega) (by decide)), nI_clamp (by omega), show ga (si tk1 5 (nI d)) 0 = t from hT2.1, show gi (si M2 14 (nI d)) 14 = nI d from rfl, byteAt_in hT' hd]
          dsimp only [Option.bind]
          rw [q1, si_si, si_si, nI_1]
          by_cases c : kd (t d) = 1
          · left
            rw [if_pos (show fX8_kindOf (t d) = 1 from c), decide_eq_true c, if_neg (show ¬ b1 true = 0 by decide)]
            refine ⟨_, _, rfl, rfl, by omega, by omega, _, rfl, rfl, fun k k1 k2 => ?_, fun hle => ?_⟩
            · rcases Nat.lt_or_ge k d with q | q
              · exact hall k k1 q
              · rw [show k = d by omega]; exact c
            · rw [hx (by omega), show d + 1 - a = (d - a) + 1 by omega, wl_succ, show a + (d - a) = d by omega]
              obtain ⟨z1, z2, z3⟩ := lt1_ok (hb d) c
              show fX8_withLetter (lN (n5 (wl t a (d - a)))) (t d) = lN (n5 (wl t a (d - a) ++ [lt1 t d]))
              rw [withL (t d) z1 z2 z3, n5_snoc]
          · right
            have hlt : a < d := by
              rcases Nat.lt_or_ge a d with q | q
              · exact q
              · exact absurd (by rw [show d = a by omega]; exact k1) c
            rw [if_neg (show ¬ fX8_kindOf (t d) = 1 from c), decide_eq_false c, if_pos (show b1 false = 0 from rfl)]
            exact ⟨_, _, rfl, rfl, d, x, hlt, by omega, rfl, rfl, hall, hx⟩) (fun s u h => by
          obtain ⟨h0, -, x, rfl, rfl, hall, hx⟩ := h
          have hT' : TX t N (si tk1 5 (nI N)) (si M2 14 (nI N)) := TX_frame hT2 (FC_si _ (by omega) _) (FA_si _ (by omega) _)
          unfold fX8_lookAtWord_L2 fX11_ahead_L81
          dsimp only
          rw [show gi (si tk1 5 (nI N)) 3 = nI N from hT2.2.1, show gi (si tk1 5 (nI N)) 5 = nI N from rfl, if_pos (nI_le (Nat.le_refl _) (by omega)), show gi (si M2 14 (nI N)) 14 = nI N from rfl, byteAt_out hT']
          exact ⟨_, _, rfl, rfl, N, x, haN', Nat.le_refl _, rfl, rfl, hall, hx⟩) (N - a) a ((0 : Int64), tk1) M2 (by omega) ⟨Nat.le_refl _, haN, 0, by rw [si_id tk1 5 g5], by rw [si_id M2 14 p14], fun k k1 k2 => by omega, fun _ => by rw [Nat.sub_self]; rfl⟩
      unfold fX8_lookAtWord
      rw [w1, w2]
      dsimp only [Option.bind]
      unfold fX8_lookAtWord_J56 lt_
      have g45 : gi (si tk1 5 (nI e)) 5 - gi (si tk1 5 (nI e)) 4 = nI (e - a) := by
        rw [show gi (si tk1 5 (nI e)) 5 = nI e from rfl, show gi (si tk1 5 (nI e)) 4 = nI a from g4]
        apply i_ext
        have z1 : (nI e).toInt = (e : Int) := nI_toInt (by omega)
        have z2 : (nI a).toInt = (a : Int) := nI_toInt (by omega)
        rw [i_sub (by omega) (by omega), z1, z2, nI_toInt (by omega)]
        omega
      rw [g45]
      have faE : FA M (si (si M2 14 (nI e)) 12 2) := FA_trans fa2 (FA_trans (FA_si _ (by omega) _) (FA_si _ (by omega) _))
      by_cases c8 : e - a ≤ 8
      · rw [if_pos (show nI (e - a) ≤ 8 from nI_le (b := 8) c8 (by decide))]
        have hwl := wl_okl hb (a := a) (n := e - a) (fun k h1 h2 => hall k h1 (by omega)) c8
        have hxx := hx c8
        obtain ⟨y, y1, y2⟩ := kw_loop (tk := sl (si tk1 5 (nI e)) 7 x) hT2.2.2.2.2.2.2 hwl hxx g8
        dsimp only
        rw [y1]
        refine ⟨_, _, rfl, faE, Or.inl ⟨rfl, FC_trans fc1 (FC_trans (FC_si _ (by omega) _) (FC_trans (FC_sl _ _ _) (FC_si _ (by omega) _))), a, e, ha0, Or.inr (by omega), by omega, heN, g4, rfl, p13, rfl, Or.inr (Or.inl ⟨g6.trans k1, rfl, by omega, hall, Or.inl ⟨c8, hxx, y2⟩⟩)⟩⟩
      · rw [if_neg (show ¬ nI (e - a) ≤ 8 from nI_ge (a := 8) (by omega) (by omega))]
        refine ⟨_, _, rfl, faE, Or.inl ⟨rfl, FC_trans fc1 (FC_si _ (by omega) _), a, e, ha0, Or.inr (by omega), by omega, heN, g4, rfl, p13, rfl, Or.inr (Or.inl ⟨g6.trans k1, rfl, by omega, hall, Or.inr ⟨by omega, g7, g8⟩⟩)⟩⟩
    · -- a number
      rw [k1, if_neg (by decide), if_neg (by decide), if_pos rfl, decide_eq_false (by decide), if_pos (show b1 false = 0 from rfl), decide_eq_true rfl, if_neg (show ¬ b1 true = 0 by decide)]
      obtain ⟨r, k, w1, w2, e, u, v, he1, heN, rfl, rfl, hx⟩ := loop_rel (b := fX8_lookAtNumber_L5) (c := fX11_ahead_L128) (fun d s q => a ≤ d ∧ d ≤ N ∧ ∃ u v : Int32, s = si (si tk1 9 u) 5 (nI d) ∧ q = si (si M2 15 v) 14 (nI d) ∧ (d - a ≤ 4 → u = v ∧ ∃ n, n < 10 ^ (d - a) ∧ u = nI n)) (fun r k => ∃ e, ∃ u v : Int32, a < e ∧ e ≤ N ∧ r = si (si tk1 9 u) 5 (nI e) ∧ k = si (si M2 15 v) 14 (nI e) ∧ (e - a ≤ 4 → u = v ∧ ∃ n, n < 10 ^ (e - a) ∧ u = nI n)) N (fun d s q hd h => by
          obtain ⟨h0, -, u, v, rfl, rfl, hx⟩ := h
          have hT' : TX t N (si (si tk1 9 u) 5 (nI d)) (si (si M2 15 v) 14 (nI d)) := TX_frame hT2 (FC_trans (FC_si _ (by omega) _) (FC_si _ (by omega) _)) (FA_trans (FA_si _ (by omega) _) (FA_si _ (by omega) _))
          obtain ⟨-, q2, -, -, -, -, q7, -, q9⟩ := kd_facts (hb d)
          have gsub : nI d - nI a = nI (d - a) := by
            apply i_ext
            have z1 : (nI d).toInt = (d : Int) := nI_toInt (by omega)
            have z2 : (nI a).toInt = (a : Int) := nI_toInt (by omega)
            rw [i_sub (by omega) (by omega), z1, z2, nI_toInt (by omega)]
            omega
          unfold fX8_lookAtNumber_L5 fX11_ahead_L128 lt_
          rw [show gi (si (si tk1 9 u) 5 (nI d)) 3 = nI N from hT2.2.1, show gi (si (si tk1 9 u) 5 (nI d)) 5 = nI d from rfl, show gi (si (si tk1 9 u) 5 (nI d)) 4 = nI a from g4, if_neg (nI_ge hd (by omega)), gd_pos (inbn (by omega) (by decide)), nI_clamp (by omega), show ga (si (si tk1 9 u) 5 (nI d)) 0 = t from hT2.1, show gi (si (si M2 15 v) 14 (nI d)) 14 = nI d from rfl, byteAt_in hT' hd, gsub]
          dsimp only [Option.bind]
          rw [q2]
          by_cases c : kd (t d) = 2
          · left
            obtain ⟨z1, z2⟩ := q9 c
            rw [if_pos (show fX8_kindOf (t d) = 2 from c), decide_eq_true c, if_neg (show ¬ b1 true = 0 by decide), q7 (by rw [c]; decide)]
            have eM : ∀ y : Int32, si (si (si (si M2 15 v) 14 (nI d)) 15 y) 14 (gi (si (si (si M2 15 v) 14 (nI d)) 15 y) 14 + 1) = si (si M2 15 y) 14 (nI (d + 1)) := by
              intro y
              rw [show gi (si (si (si M2 15 v) 14 (nI d)) 15 y) 14 = nI d from rfl, nI_1]
              refine Prod.ext ?_ rfl
              funext j
              show gi _ j = gi _ j
              simp only [gi_si]
              by_cases j1 : j = 14
              · simp [j1]
              · by_cases j2 : j = 15 <;> simp [j1, j2]
            have eT : ∀ y : Int32, si (si (si (si tk1 9 u) 5 (nI d)) 9 y) 5 (gi (si (si (si tk1 9 u) 5 (nI d)) 9 y) 5 + 1) = si (si tk1 9 y) 5 (nI (d + 1)) := by
              intro y
              rw [show gi (si (si (si tk1 9 u) 5 (nI d)) 9 y) 5 = nI d from rfl, nI_1]
              refine Prod.ext ?_ rfl
              funext j
              show gi _ j = gi _ j
              simp only [gi_si]
              by_cases j1 : j = 5
              · simp [j1]
              · by_cases j2 : j = 9 <;> simp [j1, j2]
            rw [eM, eT, si_si, nI_1]
            by_cases c4 : d - a < 4
            · rw [if_neg (show ¬ (4 : Int32) ≤ nI (d - a) from nI_ge (b := 4) c4 (by decide))]
              obtain ⟨rfl, m, hm, rfl⟩ := hx (by omega)
              have hm4 : m < 1000 := Nat.lt_of_lt_of_le hm (show 10 ^ (d - a) ≤ 10 ^ 3 from Nat.pow_le_pow_right (by decide) (by omega))
              have hpow : 10 ^ (d + 1 - a) = 10 ^ (d - a) * 10 := by rw [Nat.sub_add_comm h0, Nat.pow_succ]
              have htd : t d = nI ((t d).toInt.toNat) := i_nat (by omega)
              have ev1 : ((nI m * 10) + t d) - 48 = nI (10 * m + ((t d).toInt.toNat - 48)) := by
                apply i_ext
                have h10 : (10 : Int32).toInt = 10 := rfl
                have h48 : (48 : Int32).toInt = 48 := rfl
                have hmm : (nI m).toInt = (m : Int) := nI_toInt (by omega)
                have x1 : (nI m * 10).toInt = (m : Int) * 10 := by rw [i_mul (by rw [hmm, h10]; omega) (by rw [hmm, h10]; omega), hmm, h10]
                have x2 : (nI m * 10 + t d).toInt = (m : Int) * 10 + (t d).toInt := by rw [i_add (by omega) (by omega), x1]
                rw [i_sub (by omega) (by omega), x2, h48, nI_toInt (by omega)]
                omega
              have ev2 : (((10 : Int32) * nI m) + t d) - 48 = nI (10 * m + ((t d).toInt.toNat - 48)) := by
                rw [Int32.mul_comm]; exact ev1
              have e9 : gi (si (si tk1 9 (nI m)) 5 (nI d)) 9 = nI m := rfl
              have e15 : gi (si (si M2 15 (nI m)) 14 (nI d)) 15 = nI m := rfl
              rw [e9, e15, ev1, ev2, if_pos (show nI (10 * m + ((t d).toInt.toNat - 48)) < 100000 from nI_lt (b := 100000) (by omega) (by decide))]
              exact ⟨_, _, rfl, rfl, by omega, by omega, _, _, rfl, rfl, fun _ => ⟨rfl, _, by omega, rfl⟩⟩
            · rw [if_pos (show (4 : Int32) ≤ nI (d - a) from nI_le (a := 4) (by omega) (by omega))]
              exact ⟨_, _, rfl, rfl, by omega, by omega, u, _, rfl, rfl, fun q => by omega⟩
          · right
            have hlt : a < d := by
              rcases Nat.lt_or_ge a d with q | q
              · exact q
              · exact absurd (by rw [show d = a by omega]; exact k1) c
            rw [if_neg (show ¬ fX8_kindOf (t d) = 2 from c), decide_eq_false c, if_pos (show b1 false = 0 from rfl)]
            exact ⟨_, _, rfl, rfl, d, u, v, hlt, by omega, rfl, rfl, hx⟩) (fun s q h => by
          obtain ⟨h0, -, u, v, rfl, rfl, hx⟩ := h
          have hT' : TX t N (si (si tk1 9 u) 5 (nI N)) (si (si M2 15 v) 14 (nI N)) := TX_frame hT2 (FC_trans (FC_si _ (by omega) _) (FC_si _ (by omega) _)) (FA_trans (FA_si _ (by omega) _) (FA_si _ (by omega) _))
          unfold fX8_lookAtNumber_L5 fX11_ahead_L128
          rw [show gi (si (si tk1 9 u) 5 (nI N)) 3 = nI N from hT2.2.1, show gi (si (si tk1 9 u) 5 (nI N)) 5 = nI N from rfl, if_pos (nI_le (Nat.le_refl _) (by omega)), show gi (si (si M2 15 v) 14 (nI N)) 14 = nI N from rfl, byteAt_out hT']
          dsimp only [Option.bind]
          rw [show fX11_isDigit (-1) = 0 from rfl, if_pos rfl]
          exact ⟨_, _, rfl, rfl, N, u, v, haN', Nat.le_refl _, rfl, rfl, hx⟩) (N - a) a (si tk1 9 0) (si M2 15 0) (by omega) ⟨Nat.le_refl _, haN, 0, 0, by rw [si_id (si tk1 9 0) 5 g5], by rw [si_id (si M2 15 0) 14 p14], fun _ => ⟨rfl, 0, by rw [Nat.sub_self]; decide, rfl⟩⟩
      unfold fX8_lookAtNumber lt_
      dsimp only
      rw [w1, w2]
      dsimp only [Option.bind]
      have gsub : nI e - nI a = nI (e - a) := by
        apply i_ext
        have z1 : (nI e).toInt = (e : Int) := nI_toInt (by omega)
        have z2 : (nI a).toInt = (a : Int) := nI_toInt (by omega)
        rw [i_sub (by omega) (by omega), z1, z2, nI_toInt (by omega)]
        omega
      rw [show gi (si (si tk1 9 u) 5 (nI e)) 5 - gi (si (si tk1 9 u) 5 (nI e)) 4 = nI (e - a) from (congrArg (fun z => nI e - z) g4).trans gsub, show gi (si (si M2 15 v) 14 (nI e)) 14 - gi (si (si M2 15 v) 14 (nI e)) 13 = nI (e - a) from (congrArg (fun z => nI e - z) p13).trans gsub]
      by_cases c4 : e - a ≤ 4
      · rw [if_pos (show nI (e - a) ≤ 4 from nI_le (b := 4) c4 (by decide)), if_pos (show nI (e - a) ≤ 4 from nI_le (b := 4) c4 (by decide))]
        obtain ⟨rfl, m, hm, rfl⟩ := hx c4
        have hm4 : m < 10000 := Nat.lt_of_lt_of_le hm (show 10 ^ (e - a) ≤ 10 ^ 4 from Nat.pow_le_pow_right (by decide) c4)
        refine ⟨_, _, rfl, FA_trans fa2 (FA_trans (FA_si _ (by omega) _) (FA_trans (FA_si _ (by omega) _) (FA_si _ (by omega) _))), Or.inl ⟨rfl, FC_trans fc1 (FC_trans (FC_si _ (by omega) _) (FC_si _ (by omega) _)), a, e, ha0, Or.inr (by omega), by omega, heN, g4, rfl, p13, rfl, Or.inr (Or.inr (Or.inl ⟨g6.trans k1, rfl, g8, rfl, ?_, ?_⟩))⟩⟩
        · show 0 ≤ (nI m).toInt
          rw [nI_toInt (by omega)]; omega
        · show (nI m).toInt ≤ 9999
          rw [nI_toInt (by omega)]; omega
      · rw [if_neg (show ¬ nI (e - a) ≤ 4 from nI_ge (a := 4) (by omega) (by omega)), if_neg (show ¬ nI (e - a) ≤ 4 from nI_ge (a := 4) (by omega) (by omega))]
        exact ⟨_, _, rfl, FA_trans fa2 (FA_trans (FA_si _ (by omega) _) (FA_trans (FA_si _ (by omega) _) (FA_si _ (by omega) _))), Or.inr ⟨rfl, rfl, g4.trans p13.symm, rfl, fc1.2.2 2 (by omega), fc1.1, fc1.2.1⟩⟩
    · -- a sign
      rw [k1, if_neg (by decide), if_neg (by decide), if_neg (by decide), if_pos rfl, decide_eq_false (by decide), if_pos (show b1 false = 0 from rfl), decide_eq_false (by decide), if_pos (show b1 false = 0 from rfl), g4, gd_pos (inbn (by omega) (by decide)), nI_clamp (by omega), show ga tk1 0 = t from hT2.1]
      have hr := f7 (by rw [k1]; decide)
      have faE : FA M (si (si M2 14 (gi M2 14 + 1)) 12 4) := FA_trans fa2 (FA_trans (FA_si _ (by omega) _) (FA_si _ (by omega) _))
      have tokE : TOK t N (si (si tk1 9 (t a)) 5 (gi (si tk1 9 (t a)) 5 + 1)) (si (si M2 14 (gi M2 14 + 1)) 12 4) a (a + 1) := by
        refine ⟨by omega, by omega, g4, ?_, p13, ?_, Or.inr (Or.inr (Or.inr ⟨g6.trans k1, rfl, g8, ?_⟩))⟩
        · show gi tk1 5 + 1 = _
          rw [g5, nI_1]
        · show gi M2 14 + 1 = _
          rw [p14, nI_1]
        · show t a = gi M2 15
          rw [p15, hr]
      have fcE : FC tk (si (si tk1 9 (t a)) 5 (gi (si tk1 9 (t a)) 5 + 1)) := FC_trans fc1 (FC_trans (FC_si _ (by omega) _) (FC_si _ (by omega) _))
      rcases f3.mpr k1 with q | q | q | q
      · rw [if_pos q]; exact ⟨_, _, rfl, faE, Or.inl ⟨rfl, fcE, a, a + 1, ha0, Or.inr (by omega), tokE⟩⟩
      · rw [if_neg (by rw [q]; decide), if_pos q]; exact ⟨_, _, rfl, faE, Or.inl ⟨rfl, fcE, a, a + 1, ha0, Or.inr (by omega), tokE⟩⟩
      · rw [if_neg (by rw [q]; decide), if_neg (by rw [q]; decide), if_pos q]; exact ⟨_, _, rfl, faE, Or.inl ⟨rfl, fcE, a, a + 1, ha0, Or.inr (by omega), tokE⟩⟩
      · rw [if_neg (by rw [q]; decide), if_neg (by rw [q]; decide), if_neg (by rw [q]; decide), if_pos q]; exact ⟨_, _, rfl, faE, Or.inl ⟨rfl, fcE, a, a + 1, ha0, Or.inr (by omega), tokE⟩⟩
    · exact absurd k1 hnb
    · -- nothing
      rw [k1, if_neg (by decide), if_neg (by decide), if_neg (by decide), if_neg (by decide), decide_eq_false (by decide), if_pos (show b1 false = 0 from rfl), decide_eq_false (by decide), if_pos (show b1 false = 0 from rfl)]
      have n3 : ¬ kd (t a) = 3 := by rw [k1]; decide
      rw [if_neg (fun z => n3 (f3.mp (Or.inl z))), if_neg (fun z => n3 (f3.mp (Or.inr (Or.inl z)))), if_neg (fun z => n3 (f3.mp (Or.inr (Or.inr (Or.inl z))))), if_neg (fun z => n3 (f3.mp (Or.inr (Or.inr (Or.inr z)))))]
      exact ⟨_, _, rfl, FA_trans fa2 (FA_trans (FA_si _ (by omega) _) (FA_si _ (by omega) _)), Or.inr ⟨rfl, rfl, g4.trans p13.symm, rfl, fc1.2.2 2 (by omega), fc1.1, fc1.2.1⟩⟩
  · -- the end
    have eN : a = N := by omega
    subst eN
    rw [if_pos (nI_le (Nat.le_refl _) (by omega)), byteAt_out hT1]
    dsimp only
    obtain ⟨tk1, -, fc1, g4, g5, g6, g8, g7, hJ⟩ := cls 0
    rw [hJ, g6, if_pos rfl, if_pos rfl]
    exact ⟨_, _, rfl, FA_trans fa1 (FA_trans (FA_si _ (by omega) _) (FA_si _ (by omega) _)), Or.inl ⟨rfl, fc1, a, a, ha0, Or.inl rfl, Nat.le_refl _, Nat.le_refl _, g4, g5, m13, m14, Or.inl ⟨g6, rfl, g8, rfl⟩⟩⟩
