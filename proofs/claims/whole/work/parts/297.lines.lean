/-! ===== (B) a season's text: the lines that were read ===== -/
def NS (s : Nat → Nat) (dp k : Nat) : Prop := ∀ i, i < dp → ¬ s i = k
/-- the lines read so far: n of them, c counted, dp open -/
def SI (z st M : Rc) (F n c dp : Nat) (s : Nat → Nat) : Prop :=
  (gi z 5 = nI n ∧ gi z 6 = nI c ∧ ga M 0 4163 = nI n ∧ gi M 23 = nI c ∧ gi st 4 = nI dp ∧ gi M 22 = nI dp ∧ n + dp ≤ 2 * c ∧ c ≤ 30 ∧ dp ≤ 3) ∧
  (∀ i, i < dp → ga st 3 i = nI (s i) ∧ ga M 21 i = nI (s i) ∧ s i < n ∧ opn z (s i)) ∧
  (∀ i j, i < j → j < dp → s i < s j) ∧
  (∀ k, k < n → SC_ (ga z 0 k) (ga z 2 k) (ga z 3 k) (ga z 1 k) M (4830 + 6 * k) F ∨ (ga z 0 k = 28 ∧ ga M 0 (4830 + 6 * k) = 25)) ∧
  (∀ k, k < n → opn z k → (∃ i, i < dp ∧ s i = k) ∨ (NS s dp k ∧ ∃ p, k < p ∧ p < n ∧ ga z 4 k = nI p ∧ ZP z M 4160 k ∧ ga z 0 p = 28 ∧ ga z 4 p = nI k ∧ ∀ j, k < j → j < p → opn z j → NS s dp j ∧ ∃ q, q < p ∧ ga z 4 j = nI q)) ∧
  (∀ k, k < n → ga z 0 k = 28 → ZP z M 4160 k ∧ ∃ p, p < k ∧ NS s dp p ∧ opn z p ∧ ga z 4 k = nI p ∧ ga z 4 p = nI k)
theorem SI_0 {z st M : Rc} {F : Nat} (h5 : gi z 5 = 0) (h6 : gi z 6 = 0) (h63 : ga M 0 4163 = 0) (h23 : gi M 23 = 0) (h4 : gi st 4 = 0) (h22 : gi M 22 = 0) : SI z st M F 0 0 0 (fun _ => 0) := ⟨⟨h5, h6, h63, h23, h4, h22, by omega, by omega, by omega⟩, fun i hi => by omega, fun i j _ hj => by omega, fun k hk => by omega, fun k hk => by omega, fun k hk => by omega⟩
/-- all closed: a season -/
theorem SI_RZ {z st M b : Rc} {F n c : Nat} {s : Nat → Nat} (h : SI z st M F n c 0 s) (hb : cF b = F) (h7 : gi z 7 = 1) : RZ z b M 4160 := by
  obtain ⟨⟨e5, e6, e63, e23, e4, e22, l1, l2, l3⟩, h2, h3, h4, h5, h6⟩ := h
  refine Or.inr ⟨h7, n, by omega, e5, e63, fun k hk => ⟨?_, ?_, fun ho => ?_, fun he => ?_⟩, ?_⟩
  · rw [show 4160 + 670 + 6 * k = 4830 + 6 * k by omega]
    rcases h4 k hk with q | ⟨q1, q2⟩
    · exact q.1
    · rw [q1, q2]; rfl
  · have r : ∀ j, 4160 + 670 + 6 * k + j = 4830 + 6 * k + j := fun j => by omega
    unfold ZN ZF ZG ff
    rw [hb, r, r, r]
    rcases h4 k hk with ⟨-, q⟩ | ⟨q1, -⟩
    · rcases q with q | q | q | q | q | q | q | q | q | q | q | q | q
      · exact Or.inl q
      · exact Or.inr (Or.inl q)
      · exact Or.inr (Or.inr (Or.inl q))
      · exact Or.inr (Or.inr (Or.inr (Or.inl q)))
      · exact Or.inr (Or.inr (Or.inr (Or.inr (Or.inl q))))
      · exact Or.inr (Or.inr (Or.inr (Or.inr (Or.inr (Or.inl q)))))
      · exact Or.inr (Or.inr (Or.inr (Or.inr (Or.inr (Or.inr (Or.inl q))))))
      · exact Or.inr (Or.inr (Or.inr (Or.inr (Or.inr (Or.inr (Or.inr (Or.inl q)))))))
      · exact Or.inr (Or.inr (Or.inr (Or.inr (Or.inr (Or.inr (Or.inr (Or.inr (Or.inl q))))))))
      · exact Or.inr (Or.inr (Or.inr (Or.inr (Or.inr (Or.inr (Or.inr (Or.inr (Or.inr (Or.inl q)))))))))
      · exact Or.inr (Or.inr (Or.inr (Or.inr (Or.inr (Or.inr (Or.inr (Or.inr (Or.inr (Or.inr (Or.inl q))))))))))
      · exact Or.inr (Or.inr (Or.inr (Or.inr (Or.inr (Or.inr (Or.inr (Or.inr (Or.inr (Or.inr (Or.inr (Or.inl q)))))))))))
      · exact Or.inr (Or.inr (Or.inr (Or.inr (Or.inr (Or.inr (Or.inr (Or.inr (Or.inr (Or.inr (Or.inr (Or.inr (Or.inr q))))))))))))
    · exact Or.inr (Or.inr (Or.inr (Or.inr (Or.inr (Or.inr (Or.inr (Or.inr (Or.inr (Or.inr (Or.inr (Or.inr (Or.inl q1))))))))))))
  · rcases h5 k hk ho with ⟨i, hi, -⟩ | ⟨-, p, p1, p2, p3, p4, p5, p6, -⟩
    · omega
    · exact ⟨p4, p, p1, p2, p3, p5, p6⟩
  · obtain ⟨q1, p, p1, -, p3, p4, p5⟩ := h6 k hk he
    exact ⟨q1, p, p1, p3, p4, p5⟩
  · intro k j p q hk hj ok oj ep eq hkj hjp hp hq
    rcases h5 k hk ok with ⟨i, hi, -⟩ | ⟨-, p', p1, p2, p3, p4, p5, p6, p7⟩
    · omega
    · have epp : p' = p := by
        have := congrArg Int32.toInt (p3.symm.trans ep)
        rw [nI_toInt (by omega), nI_toInt (by omega)] at this
        omega
      subst epp
      obtain ⟨-, q', q1, q2⟩ := p7 j hkj hjp oj
      have := congrArg Int32.toInt (q2.symm.trans eq)
      rw [nI_toInt (by omega), nI_toInt (by omega)] at this
      omega
