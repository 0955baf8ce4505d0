/-! ===== (B) a season's text: a line, on both sides ===== -/
theorem zero_loop (M : Rc) {R : Nat} (hR : R + 6 ≤ 6240) : ∃ g, loopF (fX11_seasonStep_L153 (nI R)) ((1 : Int32), M) = some (sa M 0 g) ∧ ∀ k, g k = if R + 1 ≤ k ∧ k < R + 6 then 0 else ga M 0 k := by
  obtain ⟨r, l1, g, rfl, hg⟩ := loop_one (b := fX11_seasonStep_L153 (nI R)) (fun i s => 1 ≤ i ∧ ∃ g, s = (nI i, sa M 0 g) ∧ ∀ k, g k = if R + 1 ≤ k ∧ k < R + i then 0 else ga M 0 k) (fun r => ∃ g, r = sa M 0 g ∧ ∀ k, g k = if R + 1 ≤ k ∧ k < R + 6 then 0 else ga M 0 k) 6 (fun i s hi hs => by
      left
      obtain ⟨h1, g, rfl, hg⟩ := hs
      refine ⟨_, ?_, by omega, upd g (R + i) 0, rfl, fun k => ?_⟩
      · unfold fX11_seasonStep_L153 lt_
        dsimp only
        rw [if_neg (show ¬ (6 : Int32) ≤ nI i from nI_ge (b := 6) hi (by decide)), nI_plus (c := R) (i := i) (by omega) rfl, gd_pos (inbn (by omega) (by decide)), nI_clamp (by omega), ga_sa0, sa_sa, nI_succ i]
      · by_cases c : k = R + i
        · rw [c, upd_eq, if_pos (by omega)]
        · rw [upd_ne _ _ c, hg k]
          by_cases c2 : R + 1 ≤ k ∧ k < R + i
          · rw [if_pos c2, if_pos (by omega)]
          · rw [if_neg c2, if_neg (by omega)]) (fun s hs => by
      obtain ⟨h1, g, rfl, hg⟩ := hs
      refine ⟨_, ?_, g, rfl, hg⟩
      unfold fX11_seasonStep_L153
      dsimp only
      rw [if_pos (show (6 : Int32) ≤ nI 6 by decide)]) 5 1 ((1 : Int32), M) (by omega) ⟨by omega, ga M 0, by rw [sa_id]; rfl, fun k => by rw [if_neg (by omega)]⟩
  exact ⟨g, l1, hg⟩
/-- what the reference does when a step's word was right -/
theorem pre_eq (M : Rc) {n : Nat} (hn : n < 60) (h63 : ga M 0 4163 = nI n) (y1 y2 y4 z0 z1 : Int32) : ∃ g, fX11_seasonStep_J139 M y1 y2 (nI (4830 + 6 * n)) y4 z0 z1 = (fX11_ahead (sa (si M 23 (z1 + z0)) 0 g)).bind (fun r20 => (fX11_seasonOrder y1 (nI (4830 + 6 * n)) r20).bind (fun r21 => if r21.1 = (0 : Int32) then some ((0 : Int32), r21.2) else if y4 = (0 : Int32) then fX11_seasonStep_J228 y1 y2 (nI (4830 + 6 * n)) r21.2 else gd (inb (gi r21.2 22) 3) (fX11_seasonStep_J228 y1 y2 (nI (4830 + 6 * n)) (si (sa r21.2 21 (upd (ga r21.2 21) (gi r21.2 22).toNatClampNeg y2)) 22 (gi r21.2 22 + 1))))) ∧ ∀ k, g k = if k = 4830 + 6 * n then y1 else if 4830 + 6 * n + 1 ≤ k ∧ k < 4830 + 6 * n + 6 then 0 else if k = 4163 then nI (n + 1) else ga M 0 k := by
  obtain ⟨g, l1, hg⟩ := zero_loop (sa (si M 23 (z1 + z0)) 0 (upd (ga M 0) (4830 + 6 * n) y1)) (R := 4830 + 6 * n) (by omega)
  have c63 : (4163 : Int32).toNatClampNeg = 4163 := rfl
  have g63 : g 4163 = nI n := by
    rw [hg 4163, if_neg (by omega), ga_sa0, upd_ne _ _ (by omega)]
    exact h63
  refine ⟨upd g 4163 (nI (n + 1)), ?_, fun k => ?_⟩
  · unfold fX11_seasonStep_J139 lt_
    dsimp only
    rw [gd_pos (inbn (by omega) (by decide)), nI_clamp (by omega), show ga (si M 23 (z1 + z0)) 0 = ga M 0 from rfl, l1, bs, c63, ga_sa0, g63, ← nI_succ n, sa_sa, sa_sa]
    rfl
  · by_cases c1 : k = 4163
    · rw [c1, upd_eq, if_neg (by omega), if_neg (by omega), if_pos rfl]
    · rw [upd_ne _ _ c1, hg k, ga_sa0]
      by_cases c2 : 4830 + 6 * n + 1 ≤ k ∧ k < 4830 + 6 * n + 6
      · rw [if_pos c2, if_neg (by omega), if_pos c2]
      · rw [if_neg c2, if_neg c2, if_neg c1]
        by_cases c3 : k = 4830 + 6 * n
        · rw [if_pos c3, c3, upd_eq]
        · rw [if_neg c3, upd_ne _ _ c3]
