/-! ===== (B) what changes a bench ===== -/
/-- all else that the relation sees of the reference -/
def Fx (M M' : Rc) : Prop := gi M' 10 = gi M 10 ∧ gi M' 16 = gi M 16 ∧ gi M' 17 = gi M 17 ∧ gi M' 25 = gi M 25 ∧ gi M' 26 = gi M 26 ∧ gi M' 31 = gi M 31 ∧ gi M' 36 = gi M 36 ∧ gi M' 37 = gi M 37 ∧ gl M' 3 = gl M 3 ∧ gl M' 4 = gl M 4 ∧ ga M' 5 = ga M 5 ∧ ga M' 6 = ga M 6 ∧ ga M' 8 = ga M 8 ∧ ga M' 30 = ga M 30 ∧ ga M' 35 = ga M 35 ∧ gb M' 7 = gb M 7 ∧ gb M' 1 = gb M 1
theorem fx_refl (M : Rc) : Fx M M := ⟨rfl, rfl, rfl, rfl, rfl, rfl, rfl, rfl, rfl, rfl, rfl, rfl, rfl, rfl, rfl, rfl, rfl⟩
theorem fx_sa (M : Rc) (g : Nat → Int32) : Fx M (sa M 0 g) := ⟨rfl, rfl, rfl, rfl, rfl, rfl, rfl, rfl, rfl, rfl, rfl, rfl, rfl, rfl, rfl, rfl, rfl⟩
theorem fx_24 (M : Rc) (v : Int32) : Fx M (si M 24 v) := ⟨rfl, rfl, rfl, rfl, rfl, rfl, rfl, rfl, rfl, rfl, rfl, rfl, rfl, rfl, rfl, rfl, rfl⟩
theorem fx_trans {A B C : Rc} (h : Fx A B) (k : Fx B C) : Fx A C := by
  obtain ⟨a1, a2, a3, a4, a5, a6, a7, a8, a9, a10, a11, a12, a13, a14, a15, a16, a17⟩ := h
  obtain ⟨b1, b2, b3, b4, b5, b6, b7, b8, b9, b10, b11, b12, b13, b14, b15, b16, b17⟩ := k
  exact ⟨b1.trans a1, b2.trans a2, b3.trans a3, b4.trans a4, b5.trans a5, b6.trans a6, b7.trans a7, b8.trans a8, b9.trans a9, b10.trans a10, b11.trans a11, b12.trans a12, b13.trans a13, b14.trans a14, b15.trans a15, b16.trans a16, b17.trans a17⟩
theorem RZ_frame {z b b' M M' : Rc} {o o' : Nat} (h1 : ga M' 0 (o' + 3) = ga M 0 (o + 3)) (h2 : ∀ k, 670 ≤ k → k < 1030 → ga M' 0 (o' + k) = ga M 0 (o + k)) (hc : cF b' = cF b) (h : RZ z b M o) : RZ z b' M' o' := by
  rcases h with ⟨a, c⟩ | ⟨a, n, n1, n2, n3, n4, n5⟩
  · exact Or.inl ⟨a, h1.trans c⟩
  · refine Or.inr ⟨a, n, n1, n2, h1.trans n3, fun k hk => ?_, n5⟩
    obtain ⟨r1, r2, r3, r4⟩ := n4 k hk
    have e0 := h2 (670 + 6 * k) (by omega) (by omega)
    have e1 := h2 (670 + 6 * k + 1) (by omega) (by omega)
    have e2 := h2 (670 + 6 * k + 2) (by omega) (by omega)
    have e4 := h2 (670 + 6 * k + 4) (by omega) (by omega)
    have e5 := h2 (670 + 6 * k + 5) (by omega) (by omega)
    simp only [← Nat.add_assoc] at e0 e1 e2 e4 e5
    unfold ZR
    unfold ZN ZF ZP ZG ff at *
    rw [e0, e1, e2, e4, e5, hc]
    exact ⟨r1, r2, r3, r4⟩
theorem rel_bench {sg : Nat → Rc} {M M' b' : Rc} (hR : Rel sg M) (hb : RB b' M' 0 0) (hc : cF b' = cF (sg 1)) (hM : ∀ k, (k = 3 ∨ 670 ≤ k) → ga M' 0 k = ga M 0 k) (hx : Fx M M') (st : Int32) : Rel (va_up (va_up sg 0 (si (sg 0) 16 st)) 1 b') (si M' 2 st) := by
  obtain ⟨h1, h2, h3, h4, h5, ⟨h6, h6b⟩, h7, h8, h9, h10⟩ := hR
  obtain ⟨x1, x2, x3, x4, x5, x6, x7, x8, x9, x10, x11, x12, x13, x14, x15, x16, x17⟩ := hx
  obtain ⟨s1, s2, s3, s4, s5, s6⟩ := h1
  obtain ⟨m1, m2, m3⟩ := h4
  have fr : ∀ b z i, i < 3 → RM b z M i → RM b z (si M' 2 st) i := fun b z i hi ⟨q1, q2⟩ => by
    refine ⟨RB_frame (fun k hk => hM _ (by omega)) (fun k hk => ?_) q1, RZ_frame (hM _ (by omega)) (fun k hk hk2 => hM _ (by omega)) rfl q2⟩
    show gb M' 1 _ = gb M 1 _
    rw [x17]
  refine ⟨⟨rfl, ?_, ?_, ?_, s5, s6⟩, hb, ?_, ?_, ?_, ⟨?_, h6b⟩, ?_, ?_, ?_, ?_⟩
  · exact s2.trans x9.symm
  · exact s3.trans x10.symm
  · exact s4.trans x8.symm
  · exact RZ_frame (M := M) (hM _ (by omega)) (fun k hk hk2 => hM _ (by omega)) hc h3
  · exact ⟨fun q => fr _ _ 0 (by omega) (m1 q), fun q => fr _ _ 1 (by omega) (m2 q), fun q => fr _ _ 2 (by omega) (m3 q)⟩
  · obtain ⟨t1, t2, t3, t4⟩ := h5
    exact ⟨t1.trans x11.symm, t2.trans x12.symm, t3.trans x16.symm, t4⟩
  · obtain ⟨t1, t2, t3, t4, t5, t6⟩ := h6
    exact ⟨t1.trans x13.symm, t2.trans x1.symm, t3, t4.trans x2.symm, t5.trans x3.symm, t6⟩
  · obtain ⟨t1, t2, t3⟩ := h7
    unfold RL_
    show (gi (sg 18) 2 = -1 ↔ gi M' 36 = 0) ∧ (gi M' 36 = 0 ∨ gi M' 36 = 1) ∧ (gi M' 36 = 1 → gi (sg 18) 3 = ga M' 35 0 ∧ gi (sg 18) 4 = ga M' 35 1 ∧ gi (sg 18) 5 = ga M' 35 2 ∧ gi (sg 18) 6 = ga M' 35 3 ∧ isb (gi (sg 18) 6) = true)
    rw [x7, x15]
    exact ⟨t1, t2, t3⟩
  · obtain ⟨t1, t2, t3⟩ := h8
    refine ⟨t1.trans x6.symm, t2, fun k k1 k2 => ?_⟩
    show ga (sg 23) 1 k = ga M' 30 k
    rw [x14]
    exact t3 k k1 k2
  · exact x4.trans h9
  · exact x5.trans h10
/-- a changed bench, and nothing else -/
def QB (c : Option (Int32 × Rc × Rc)) (m : Option (Int32 × Rc)) (kb b M : Rc) : Prop := ∃ (v st : Int32) (b' M' : Rc), c = some (v, si kb 16 st, b') ∧ m = some (v, si M' 2 st) ∧ RB b' M' 0 0 ∧ cF b' = cF b ∧ (∀ k, (k = 3 ∨ 670 ≤ k) → ga M' 0 k = ga M 0 k) ∧ Fx M M'
theorem bt_b {sg : Nat → Rc} {M : Rc} {c : Option (Int32 × Rc × Rc)} {m : Option (Int32 × Rc)} (hR : Rel sg M) (h : QB c m (sg 0) (sg 1) M) : ∃ (r1 : Int32 × Rc × Rc) (r2 : Int32 × Rc), c = some r1 ∧ m = some r2 ∧ r1.1 = r2.1 ∧ Rel (va_up (va_up sg 0 r1.2.1) 1 r1.2.2) r2.2 := by
  obtain ⟨v, st, b', M', e1, e2, h1, h2, h3, h4⟩ := h
  exact ⟨_, _, e1, e2, rfl, rel_bench hR h1 h2 h3 h4 st⟩
theorem qb_no {kb b M : Rc} (hb : RB b M 0 0) (v : Int32) (hv : ¬ v = 0) : QB (some ((fX10_deny v kb).1, (fX10_deny v kb).2, b)) (some (fX11_is v M)) kb b M := ⟨0, v, b, M, rfl, by rw [mis_ne hv], hb, rfl, fun _ _ => rfl, fx_refl M⟩
theorem qb_ref {kb b M : Rc} (hb : RB b M 0 0) (v : Int32) : QB (some ((fX10_refuse v kb).1, (fX10_refuse v kb).2, b)) (some (fX11_refuse v M)) kb b M := ⟨-1, v, b, M, rfl, rfl, hb, rfl, fun _ _ => rfl, fx_refl M⟩
/-- one field of one farmer -/
theorem rb_cure {b M : Rc} {n f : Nat} (h : RB b M 0 n) (hf : f < cF b) {v : Int32} (h0 : 0 ≤ v.toInt) (h3 : v.toInt ≤ 60) : RB (sa b 4 (upd (ga b 4) f v)) (sa M 0 (upd (ga M 0) (10 + 6 * f + 4) v)) 0 n := by
  obtain ⟨⟨c1, c2, c3, c4, c5, c6, c7, c8, c9⟩, a1, a2, a3, a4, a5, a6, a7, a8⟩ := h
  have hF : cF b ≤ 8 := c1.2
  have g : ∀ k, ¬ k = 10 + 6 * f + 4 → ga (sa M 0 (upd (ga M 0) (10 + 6 * f + 4) v)) 0 k = ga M 0 k := fun k hk => upd_ne _ _ hk
  refine ⟨⟨c1, c2, fun k hk => ?_, c4, c5, c6, c7, c8, c9⟩, ?_, ?_, ?_, ?_, ?_, ?_, ?_, a8⟩
  · obtain ⟨q1, q2, q3, q4, q5, q6⟩ := c3 k hk
    refine ⟨q1, ?_, q3, q4, q5, q6⟩
    show 0 ≤ (upd (ga b 4) f v k).toInt ∧ (upd (ga b 4) f v k).toInt ≤ 61
    unfold upd
    split
    · omega
    · exact q2
  · rw [g _ (by omega)]; exact a1
  · rw [g _ (by omega)]; exact a2
  · rw [g _ (by omega)]; exact a3
  · intro k hk
    obtain ⟨b0, b1, b2, b3, b4, b5⟩ := a4 k hk
    refine ⟨by rw [g _ (by omega)]; exact b0, by rw [g _ (by omega)]; exact b1, by rw [g _ (by omega)]; exact b2, by rw [g _ (by omega)]; exact b3, ?_, by rw [g _ (by omega)]; exact b5⟩
    show upd (ga M 0) (10 + 6 * f + 4) v (0 + 10 + 6 * k + 4) = if upd (ga b 4) f v k = 61 then 1000000 else upd (ga b 4) f v k
    unfold upd
    by_cases e : k = f
    · subst e
      rw [if_pos (by omega), if_pos rfl]
      have : ¬ v = 61 := fun z => by rw [z, show (61 : Int32).toInt = 61 from rfl] at h3; omega
      rw [if_neg this]
    · rw [if_neg (by omega), if_neg e]
      exact b4
  · intro i hi
    rw [g _ (by omega)]; exact a5 i hi
  · intro d hd
    rw [g _ (by omega)]; exact a6 d hd
  · intro k d hk hd
    rw [g _ (by omega)]; exact a7 k d hk hd
theorem rb_false {b M : Rc} {n f : Nat} (h : RB b M 0 n) (hf : f < cF b) {v : Int32} (h0 : 0 ≤ v.toInt) (h3 : v.toInt ≤ 16) : RB (sa b 3 (upd (ga b 3) f v)) (sa M 0 (upd (ga M 0) (10 + 6 * f + 2) v)) 0 n := by
  obtain ⟨⟨c1, c2, c3, c4, c5, c6, c7, c8, c9⟩, a1, a2, a3, a4, a5, a6, a7, a8⟩ := h
  have hF : cF b ≤ 8 := c1.2
  have g : ∀ k, ¬ k = 10 + 6 * f + 2 → ga (sa M 0 (upd (ga M 0) (10 + 6 * f + 2) v)) 0 k = ga M 0 k := fun k hk => upd_ne _ _ hk
  refine ⟨⟨c1, c2, fun k hk => ?_, c4, c5, c6, c7, c8, c9⟩, ?_, ?_, ?_, ?_, ?_, ?_, ?_, a8⟩
  · obtain ⟨q1, q2, q3, q4, q5, q6⟩ := c3 k hk
    refine ⟨q1, q2, q3, ?_, q5, q6⟩
    show 0 ≤ (upd (ga b 3) f v k).toInt ∧ (upd (ga b 3) f v k).toInt ≤ 16
    unfold upd
    split
    · omega
    · exact q4
  · rw [g _ (by omega)]; exact a1
  · rw [g _ (by omega)]; exact a2
  · rw [g _ (by omega)]; exact a3
  · intro k hk
    obtain ⟨b0, b1, b2, b3, b4, b5⟩ := a4 k hk
    refine ⟨by rw [g _ (by omega)]; exact b0, by rw [g _ (by omega)]; exact b1, ?_, by rw [g _ (by omega)]; exact b3, by rw [g _ (by omega)]; exact b4, by rw [g _ (by omega)]; exact b5⟩
    show upd (ga M 0) (10 + 6 * f + 2) v (0 + 10 + 6 * k + 2) = upd (ga b 3) f v k
    unfold upd
    by_cases e : k = f
    · subst e
      rw [if_pos (by omega), if_pos rfl]
    · rw [if_neg (by omega), if_neg e]
      exact b2
  · intro i hi
    rw [g _ (by omega)]; exact a5 i hi
  · intro d hd
    rw [g _ (by omega)]; exact a6 d hd
  · intro k d hk hd
    rw [g _ (by omega)]; exact a7 k d hk hd
theorem rb_weight {b M : Rc} {n f : Nat} (h : RB b M 0 n) (hf : f < cF b) {v : Int32} (h0 : 1 ≤ v.toInt) (h3 : v.toInt ≤ 64) : RB (sa b 5 (upd (ga b 5) f v)) (sa M 0 (upd (ga M 0) (10 + 6 * f + 5) v)) 0 n := by
  obtain ⟨⟨c1, c2, c3, c4, c5, c6, c7, c8, c9⟩, a1, a2, a3, a4, a5, a6, a7, a8⟩ := h
  have hF : cF b ≤ 8 := c1.2
  have g : ∀ k, ¬ k = 10 + 6 * f + 5 → ga (sa M 0 (upd (ga M 0) (10 + 6 * f + 5) v)) 0 k = ga M 0 k := fun k hk => upd_ne _ _ hk
  refine ⟨⟨c1, c2, fun k hk => ?_, c4, c5, c6, c7, c8, c9⟩, ?_, ?_, ?_, ?_, ?_, ?_, ?_, a8⟩
  · obtain ⟨q1, q2, q3, q4, q5, q6⟩ := c3 k hk
    refine ⟨q1, q2, q3, q4, ?_, q6⟩
    show 1 ≤ (upd (ga b 5) f v k).toInt ∧ (upd (ga b 5) f v k).toInt ≤ 64
    unfold upd
    split
    · omega
    · exact q5
  · rw [g _ (by omega)]; exact a1
  · rw [g _ (by omega)]; exact a2
  · rw [g _ (by omega)]; exact a3
  · intro k hk
    obtain ⟨b0, b1, b2, b3, b4, b5⟩ := a4 k hk
    refine ⟨by rw [g _ (by omega)]; exact b0, by rw [g _ (by omega)]; exact b1, by rw [g _ (by omega)]; exact b2, by rw [g _ (by omega)]; exact b3, by rw [g _ (by omega)]; exact b4, ?_⟩
    show upd (ga M 0) (10 + 6 * f + 5) v (0 + 10 + 6 * k + 5) = upd (ga b 5) f v k
    unfold upd
    by_cases e : k = f
    · subst e
      rw [if_pos (by omega), if_pos rfl]
    · rw [if_neg (by omega), if_neg e]
      exact b5
  · intro i hi
    rw [g _ (by omega)]; exact a5 i hi
  · intro d hd
    rw [g _ (by omega)]; exact a6 d hd
  · intro k d hk hd
    rw [g _ (by omega)]; exact a7 k d hk hd
/-- one bit of what was felt -/
theorem rb_tw {b M : Rc} {n f d : Nat} (h : RB b M 0 n) (hf : f < cF b) (hd : d < cD b) {x : Int64} {v : Bool} (hx : ∀ k, k < 64 → tb x k = if k = d then v else tw b f k) : RB (sb b 6 (vp_updL (gb b 6) f x)) (sa M 0 (upd (ga M 0) (182 + 60 * f + d) (b1 v))) 0 n := by
  obtain ⟨⟨c1, c2, c3, c4, c5, c6, c7, c8, c9⟩, a1, a2, a3, a4, a5, a6, a7, a8⟩ := h
  have hF : cF b ≤ 8 := c1.2
  have hD : cD b ≤ 60 := c2.2
  have g : ∀ k, ¬ k = 182 + 60 * f + d → ga (sa M 0 (upd (ga M 0) (182 + 60 * f + d) (b1 v))) 0 k = ga M 0 k := fun k hk => upd_ne _ _ hk
  have t : ∀ g k, tw (sb b 6 (vp_updL (gb b 6) f x)) g k = if g = f then tb x k else tw b g k := fun g k => by
    show tb (vp_updL (gb b 6) f x g) k = _
    unfold vp_updL
    split <;> rfl
  refine ⟨⟨c1, c2, fun k hk => ?_, c4, c5, c6, c7, c8, c9⟩, ?_, ?_, ?_, ?_, ?_, ?_, ?_, ?_⟩
  · obtain ⟨q1, q2, q3, q4, q5, q6⟩ := c3 k hk
    refine ⟨q1, q2, q3, q4, q5, fun j hj => ?_⟩
    have hj : cD b ≤ j := hj
    rw [t]
    split
    · rename_i e
      subst e
      by_cases j64 : j < 64
      · rw [hx j j64, if_neg (by omega)]; exact q6 j hj
      · exact tb_ge (by omega)
    · exact q6 j hj
  · rw [g _ (by omega)]; exact a1
  · rw [g _ (by omega)]; exact a2
  · rw [g _ (by omega)]; exact a3
  · intro k hk
    have hk : k < cF b := hk
    obtain ⟨b0, b1, b2, b3, b4, b5⟩ := a4 k hk
    exact ⟨by rw [g _ (by omega)]; exact b0, by rw [g _ (by omega)]; exact b1, by rw [g _ (by omega)]; exact b2, by rw [g _ (by omega)]; exact b3, by rw [g _ (by omega)]; exact b4, by rw [g _ (by omega)]; exact b5⟩
  · intro i hi
    rw [g _ (by omega)]; exact a5 i hi
  · intro e he
    have he : e < cD b := he
    rw [g _ (by omega)]; exact a6 e he
  · intro k e hk he
    have hk : k < cF b := hk
    have he : e < cD b := he
    rw [t]
    by_cases q : k = f ∧ e = d
    · obtain ⟨rfl, rfl⟩ := q
      show upd (ga M 0) (182 + 60 * k + e) (b1 v) (0 + 182 + 60 * k + e) = _
      rw [show 0 + 182 + 60 * k + e = 182 + 60 * k + e by omega, upd_eq, if_pos rfl, hx e (by omega), if_pos rfl]
    · rw [g _ (by omega), a7 k e hk he]
      split
      · rename_i z
        subst z
        rw [hx e (by omega), if_neg (fun z => q ⟨rfl, z⟩)]
      · rfl
  · intro k hk
    exact a8 k hk
theorem b_cure : BT_cure Rel := by
  intro sg M hR p1 p2
  apply bt_b hR
  obtain ⟨hb, h25, h26⟩ := rel_b hR
  generalize sg 1 = b at *
  generalize sg 0 = kb at *
  have hF : cF b ≤ 8 := hb.1.1.2
  unfold fX10_cure fX11_cure
  rcases farmer_cases hb kb p1 with ⟨f, hf, rfl, e1, e2⟩ | ⟨e1, e2⟩
  · rcases rng_cases p2 0 60 (lo' := 0) (hi' := 60) rfl rfl with ⟨a, c, e3, e4⟩ | ⟨-, e3, e4⟩
    · simp only [e1, e2, e3, e4, i00, i10, if_true]
      rw [cure_on hb.1.1.1 hF hf, fRowk f 4 4 rfl, gd_pos (inbn (by omega) (by decide)), nI_clamp (by omega)]
      exact ⟨1, 0, _, _, rfl, rfl, rb_cure hb hf a c, rfl, fun k hk => upd_ne _ _ (by omega), fx_sa _ _⟩
    · simp only [e1, e2, e3, e4, i00, i10, if_true]
      exact qb_no hb 1 (by decide)
  · simp only [e1, e2, i00, i10, if_true]
    exact qb_no hb 1 (by decide)
theorem b_brandy : BT_brandy Rel := by
  intro sg M hR p1 p2
  apply bt_b hR
  obtain ⟨hb, h25, h26⟩ := rel_b hR
  generalize sg 1 = b at *
  generalize sg 0 = kb at *
  have hF : cF b ≤ 8 := hb.1.1.2
  unfold fX10_brandy fX11_brandy
  rcases farmer_cases hb kb p1 with ⟨f, hf, rfl, e1, e2⟩ | ⟨e1, e2⟩
  · rcases rng_cases p2 0 16 (lo' := 0) (hi' := 16) rfl rfl with ⟨a, c, e3, e4⟩ | ⟨-, e3, e4⟩
    · simp only [e1, e2, e3, e4, i00, i10, if_true]
      rw [set_false hb.1.1.1 hF hf, fRowk f 2 2 rfl, gd_pos (inbn (by omega) (by decide)), nI_clamp (by omega)]
      exact ⟨1, 0, _, _, rfl, rfl, rb_false hb hf a c, rfl, fun k hk => upd_ne _ _ (by omega), fx_sa _ _⟩
    · simp only [e1, e2, e3, e4, i00, i10, if_true]
      exact qb_no hb 1 (by decide)
  · simp only [e1, e2, i00, i10, if_true]
    exact qb_no hb 1 (by decide)
theorem b_weigh : BT_weigh Rel := by
  intro sg M hR p1 p2
  apply bt_b hR
  obtain ⟨hb, h25, h26⟩ := rel_b hR
  generalize sg 1 = b at *
  generalize sg 0 = kb at *
  have hF : cF b ≤ 8 := hb.1.1.2
  unfold fX10_weigh fX11_weigh
  rcases farmer_cases hb kb p1 with ⟨f, hf, rfl, e1, e2⟩ | ⟨e1, e2⟩
  · rcases rng_cases p2 1 64 (lo' := 1) (hi' := 64) rfl rfl with ⟨a, c, e3, e4⟩ | ⟨-, e3, e4⟩
    · simp only [e1, e2, e3, e4, i00, i10, if_true]
      rw [gd_pos (inbn (by omega) (by decide)), nI_clamp (by omega), fRowk f 5 5 rfl, gd_pos (inbn (by omega) (by decide)), nI_clamp (by omega)]
      exact ⟨1, 0, _, _, rfl, rfl, rb_weight hb hf a c, rfl, fun k hk => upd_ne _ _ (by omega), fx_sa _ _⟩
    · simp only [e1, e2, e3, e4, i00, i10, if_true]
      exact qb_no hb 1 (by decide)
  · simp only [e1, e2, i00, i10, if_true]
    exact qb_no hb 1 (by decide)
theorem tb_flip {b : Rc} {f d : Nat} (hd : d < 64) : ∀ k, k < 64 → tb (gb b 6 f ^^^ ((1 : Int64) <<< ((nI d).toInt64 &&& 63))) k = if k = d then !tw b f d else tw b f k := by
  intro k hk
  rw [tb_xor, tb_one hd hk]
  unfold tw
  by_cases e : k = d
  · subst e; simp
  · simp [e]
theorem turn_eq {b : Rc} {F f d : Nat} (h8 : gi b 8 = nI F) (hF : F ≤ 8) (hf : f < F) : fX0_turn (nI f) (nI d) b = some (sb b 6 (vp_updL (gb b 6) f (gb b 6 f ^^^ ((1 : Int64) <<< ((nI d).toInt64 &&& 63))))) := by
  unfold fX0_turn
  rw [has_farmer h8 hF hf, if_neg (by decide), gd_pos (inbn (by omega) (by decide)), nI_clamp (by omega)]
  rfl
theorem one_sub (v : Bool) : (1 : Int32) - b1 v = b1 (!v) := by cases v <;> rfl
theorem turns_eq {b M : Rc} {n f d : Nat} (hb : RB b M 0 n) (hf : f < cF b) (hd : d < cD b) : fX11_turnsRound (nI f) (nI d) M = some (b1 (!tw b f d), sa M 0 (upd (ga M 0) (182 + 60 * f + d) (b1 (!tw b f d)))) := by
  have hF : cF b ≤ 8 := hb.1.1.2
  have hD : cD b ≤ 60 := hb.1.2.1.2
  unfold fX11_turnsRound lt_
  rw [tRow, gd_pos (inbn (by omega) (by decide)), nI_clamp (by omega), twg_eq hb hf hd, one_sub]
  dsimp only
  rw [show ga (sa M 0 (upd (ga M 0) (182 + 60 * f + d) (b1 (!tw b f d)))) 0 (182 + 60 * f + d) = b1 (!tw b f d) from upd_eq _ _ _]
theorem b_lie : BT_lie Rel := by
  intro sg M hR p1 p2
  apply bt_b hR
  obtain ⟨hb, h25, h26⟩ := rel_b hR
  generalize sg 1 = b at *
  generalize sg 0 = kb at *
  have hF : cF b ≤ 8 := hb.1.1.2
  have hD : cD b ≤ 60 := hb.1.2.1.2
  unfold fX10_lie fX11_lie
  rcases isIn_eq hb kb p1 p2 with ⟨f, d, hf, hd, rfl, rfl, e1, e2, e3⟩ | ⟨e1, e2, e3⟩ | ⟨e1, e3⟩
  · simp only [e1, e2, e3, i00, i10, if_true]
    have hb2 := rb_tw hb hf hd (tb_flip (b := b) (f := f) (d := d) (by omega))
    rw [turn_eq hb.1.1.1 hF hf, turns_eq hb hf hd]
    dsimp only [Option.bind]
    rw [feltOn_eq (by omega) (by omega)]
    have ew : tw (sb b 6 (vp_updL (gb b 6) f (gb b 6 f ^^^ ((1 : Int64) <<< ((nI d).toInt64 &&& 63))))) f d = !tw b f d := by
      show tb (vp_updL (gb b 6) f _ f) d = _
      unfold vp_updL
      rw [if_pos rfl, tb_flip (by omega) d (by omega), if_pos rfl]
    rw [ew]
    exact ⟨b1 (!tw b f d), 0, _, _, rfl, rfl, hb2, rfl, fun k hk => upd_ne _ _ (by omega), fx_sa _ _⟩
  · simp only [e1, e2, e3, i00, i10, if_true]
    exact qb_ref hb 1
  · simp only [e1, e3, i00, i10, if_true]
    exact qb_ref hb 1
theorem b_twinge : BT_twinge Rel := by
  intro sg M hR p1 p2 p3
  apply bt_b hR
  obtain ⟨hb, h25, h26⟩ := rel_b hR
  generalize sg 1 = b at *
  generalize sg 0 = kb at *
  have hF : cF b ≤ 8 := hb.1.1.2
  have hD : cD b ≤ 60 := hb.1.2.1.2
  unfold fX10_twinge fX11_twinge
  rcases isIn_eq hb kb p1 p2 with ⟨f, d, hf, hd, rfl, rfl, e1, e2, e3⟩ | ⟨e1, e2, e3⟩ | ⟨e1, e3⟩
  · simp only [e1, e2, e3, i00, i10, if_true]
    rw [turn_eq hb.1.1.1 hF hf, feltOn_eq (by omega) (by omega), tRow, gd_pos (inbn (by omega) (by decide)), gd_pos (inbn (by omega) (by decide)), nI_clamp (by omega)]
    dsimp only [Option.bind]
    obtain ⟨v, hv1, hv2⟩ : ∃ v : Bool, fX10_bit p3 = b1 v ∧ ((p3 = 0 ∧ v = false) ∨ (¬ p3 = 0 ∧ v = true)) := by
      by_cases q : p3 = 0
      · exact ⟨false, by rw [q]; rfl, Or.inl ⟨q, rfl⟩⟩
      · exact ⟨true, by unfold fX10_bit; rw [if_neg q]; rfl, Or.inr ⟨q, rfl⟩⟩
    have em : (if p3 = 0 then lt_ (sa M 0 (upd (ga M 0) (182 + 60 * f + d) 0)) (fun s0_5 => lt_ (fX11_is 0 s0_5) (fun r6 => some (r6.1, r6.2))) else lt_ (sa M 0 (upd (ga M 0) (182 + 60 * f + d) 1)) (fun s0_9 => lt_ (fX11_is 0 s0_9) (fun r10 => some (r10.1, r10.2)))) = some ((1 : Int32), si (sa M 0 (upd (ga M 0) (182 + 60 * f + d) (b1 v))) 2 0) := by
      rcases hv2 with ⟨q1, q2⟩ | ⟨q1, q2⟩
      · rw [if_pos q1, q2]; rfl
      · rw [if_neg q1, q2]; rfl
    rw [em, hv1]
    by_cases q : b1 (tw b f d) = b1 v
    · rw [if_pos q]
      have q2 := b1_inj.mp q
      refine ⟨1, 0, b, sa M 0 (upd (ga M 0) (182 + 60 * f + d) (b1 v)), rfl, rfl, ?_, rfl, fun k hk => upd_ne _ _ (by omega), fx_sa _ _⟩
      rw [upd_id _ _ (by rw [← q2]; exact twg_eq hb hf hd), sa_id]
      exact hb
    · rw [if_neg q]
      have hb2 := rb_tw hb hf hd (tb_flip (b := b) (f := f) (d := d) (by omega))
      have q2 : v = !tw b f d := by
        cases hh : tw b f d <;> cases v <;> rw [hh] at q <;> first | rfl | exact absurd rfl q
      rw [q2]
      exact ⟨1, 0, _, _, rfl, rfl, hb2, rfl, fun k hk => upd_ne _ _ (by omega), fx_sa _ _⟩
  · simp only [e1, e2, e3, i00, i10, if_true]
    exact qb_no hb 1 (by decide)
  · simp only [e1, e3, i00, i10, if_true]
    exact qb_no hb 1 (by decide)
