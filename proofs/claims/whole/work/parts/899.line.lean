/-! ===== (B) a season's text: a line, on both sides ===== -/
theorem zero_loop (M : Rc) {R : Nat} (hR : R + 6 ≤ 6240) : ∃ g, loopF (fX11_seasonStep_L153 (nI R)) ((1 : Int32), M) = some (sa M 0 g) ∧ ∀ k, g k = if R + 1 ≤ k ∧ k < R + 6 then 0 else ga M 0 k := by
  obtain ⟨r, l1, g, rfl, hg⟩ := loop_one (b := fX11_seasonStep_L153 (nI R)) (fun i s => 1 ≤ i ∧ ∃ g, s = (nI i, sa M 0 g) ∧ ∀ k, g k = if R + 1 ≤ k ∧ k < R + i then 0 else ga M 0 k) (fun r => ∃ g, r = sa M 0 g ∧ ∀ k, g k = if R + 1 ≤ k ∧ k < R + 6 then 0 else ga M 0 k) 6 (fun i s hi hs => by
      left
      obtain ⟨h1, g, rfl, hg⟩ := hs
      refine ⟨_, ?_, by omega, upd g (R + i) 0, rfl, fun k => ?_⟩
      · unfold fX11_seasonStep_L153 lt_
        dsimp only
        rw [if_neg (show ¬ (6 : Int32) ≤ nI i from nI_ge (b := 6) hi (by decide)), nI_plus (c := R) (i := i) (by omega) rfl, gd_pos (inbn (by omega) (by decide)), nI_clamp (by omega), ga_sa0, sa_sa, nI_succ i]
      · by_cases c : k = R + i
        · rw [c, upd_eq, if_pos (by omega)]
        · rw [upd_ne _ _ c, hg k]
          by_cases c2 : R + 1 ≤ k ∧ k < R + i
          · rw [if_pos c2, if_pos (by omega)]
          · rw [if_neg c2, if_neg (by omega)]) (fun s hs => by
      obtain ⟨h1, g, rfl, hg⟩ := hs
      refine ⟨_, ?_, g, rfl, hg⟩
      unfold fX11_seasonStep_L153
      dsimp only
      rw [if_pos (show (6 : Int32) ≤ nI 6 by decide)]) 5 1 ((1 : Int32), M) (by omega) ⟨by omega, ga M 0, by rw [sa_id]; rfl, fun k => by rw [if_neg (by omega)]⟩
  exact ⟨g, l1, hg⟩
