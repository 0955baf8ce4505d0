/-! ===== (B) a season's text: one more line ===== -/
theorem opn_row {z z' : Rc} {k : Nat} (h : ga z' 0 k = ga z 0 k) : opn z' k ↔ opn z k := by
  unfold opn
  rw [h]
theorem SC_28 {σ v f : Int32} {M : Rc} {R F : Nat} : ¬ SC_ 28 σ v f M R F := by
  rintro ⟨-, h⟩
  rcases h with h | h | h | h | h | h | h | h | h | h | h | h | h
  · exact absurd h.1 (by decide)
  · exact absurd h (by decide)
  · exact absurd h (by decide)
  · exact absurd h (by decide)
  · exact absurd h.1 (by decide)
  · exact absurd h.1 (by decide)
  · exact absurd h.1 (by decide)
  · exact absurd h.1 (by decide)
  · exact absurd h.1 (by decide)
  · exact absurd h.1 (by decide)
  · exact absurd h.1 (by decide)
  · exact absurd h.1 (by decide)
  · exact absurd h (by decide)
theorem SC_cells {κ σ v f : Int32} {M M' : Rc} {R F : Nat} (h : ∀ j, j < 6 → ga M' 0 (R + j) = ga M 0 (R + j)) (q : SC_ κ σ v f M R F) : SC_ κ σ v f M' R F := by
  have e0 : ga M' 0 R = ga M 0 R := h 0 (by omega)
  unfold SC_ at *
  rw [e0, h 1 (by omega), h 2 (by omega), h 5 (by omega)]
  exact q
/-- a step that opens nothing -/
theorem SI_step {z st M z' st' M' : Rc} {F n c dp : Nat} {s : Nat → Nat} (h : SI z st M F n c dp s) (hc : c < 30) (e5 : gi z' 5 = nI (n + 1)) (e6 : gi z' 6 = nI (c + 1)) (e63 : ga M' 0 4163 = nI (n + 1)) (e23 : gi M' 23 = nI (c + 1)) (rw_ : ∀ k, k < n → ga z' 0 k = ga z 0 k ∧ ga z' 1 k = ga z 1 k ∧ ga z' 2 k = ga z 2 k ∧ ga z' 3 k = ga z 3 k ∧ ga z' 4 k = ga z 4 k) (hM : ∀ k, 4830 ≤ k → k < 4830 + 6 * n → ga M' 0 k = ga M 0 k) (hS : SC_ (ga z' 0 n) (ga z' 2 n) (ga z' 3 n) (ga z' 1 n) M' (4830 + 6 * n) F) (ho : ¬ opn z' n) (e4 : gi st' 4 = nI dp) (e22 : gi M' 22 = nI dp) (e3 : ∀ i, i < dp → ga st' 3 i = ga st 3 i ∧ ga M' 21 i = ga M 21 i) : SI z' st' M' F (n + 1) (c + 1) dp s := by
  obtain ⟨⟨a5, a6, a63, a23, a4, a22, l1, l2, l3⟩, h2, h3, h4, h5, h6⟩ := h
  have n28 : ¬ ga z' 0 n = 28 := fun q => by rw [q] at hS; exact SC_28 hS
  have zp : ∀ k, k < n → ZP z M 4160 k → ZP z' M' 4160 k := fun k hk q => by
    unfold ZP at *
    rw [hM _ (by omega) (by omega), (rw_ k hk).2.2.2.2]
    exact q
  have op : ∀ k, k < n → (opn z' k ↔ opn z k) := fun k hk => opn_row (rw_ k hk).1
  refine ⟨⟨e5, e6, e63, e23, e4, e22, by omega, by omega, l3⟩, fun i hi => ?_, h3, fun k hk => ?_, fun k hk ok => ?_, fun k hk ek => ?_⟩
  · obtain ⟨q1, q2, q3, q4⟩ := h2 i hi
    exact ⟨(e3 i hi).1.trans q1, (e3 i hi).2.trans q2, by omega, (op _ q3).2 q4⟩
  · by_cases c1 : k = n
    · rw [c1]; exact Or.inl hS
    · have hk' : k < n := by omega
      obtain ⟨w0, w1, w2, w3, w4⟩ := rw_ k hk'
      rw [w0, w1, w2, w3, hM _ (by omega) (by omega)]
      rcases h4 k hk' with q | q
      · exact Or.inl (SC_cells (fun j hj => hM _ (by omega) (by omega)) q)
      · exact Or.inr q
  · have hk' : k < n := by
      by_cases c1 : k = n
      · rw [c1] at ok; exact absurd ok ho
      · omega
    rcases h5 k hk' ((op k hk').1 ok) with q | ⟨q0, p, p1, p2, p3, p4, p5, p6, p7⟩
    · exact Or.inl q
    · refine Or.inr ⟨q0, p, p1, by omega, (rw_ k hk').2.2.2.2.trans p3, zp k hk' p4, (rw_ p p2).1.trans p5, (rw_ p p2).2.2.2.2.trans p6, fun j j1 j2 oj => ?_⟩
      have hj : j < n := by omega
      obtain ⟨r1, q, r2, r3⟩ := p7 j j1 j2 ((op j hj).1 oj)
      exact ⟨r1, q, r2, (rw_ j hj).2.2.2.2.trans r3⟩
  · have hk' : k < n := by
      by_cases c1 : k = n
      · rw [c1] at ek; exact absurd ek n28
      · omega
    obtain ⟨q1, p, p1, p2, p3, p4, p5⟩ := h6 k hk' ((rw_ k hk').1.symm.trans ek)
    have hp : p < n := by omega
    exact ⟨zp k hk' q1, p, p1, p2, (op p hp).2 p3, (rw_ k hk').2.2.2.2.trans p4, (rw_ p hp).2.2.2.2.trans p5⟩
/-- a step that opens -/
theorem SI_open {z st M z' st' M' : Rc} {F n c dp : Nat} {s : Nat → Nat} (h : SI z st M F n c dp s) (hc : c < 30) (hd : dp < 3) (e5 : gi z' 5 = nI (n + 1)) (e6 : gi z' 6 = nI (c + 1)) (e63 : ga M' 0 4163 = nI (n + 1)) (e23 : gi M' 23 = nI (c + 1)) (rw_ : ∀ k, k < n → ga z' 0 k = ga z 0 k ∧ ga z' 1 k = ga z 1 k ∧ ga z' 2 k = ga z 2 k ∧ ga z' 3 k = ga z 3 k ∧ ga z' 4 k = ga z 4 k) (hM : ∀ k, 4830 ≤ k → k < 4830 + 6 * n → ga M' 0 k = ga M 0 k) (hS : SC_ (ga z' 0 n) (ga z' 2 n) (ga z' 3 n) (ga z' 1 n) M' (4830 + 6 * n) F) (ho : opn z' n) (e4 : gi st' 4 = nI (dp + 1)) (e22 : gi M' 22 = nI (dp + 1)) (e3 : ∀ i, i < dp → ga st' 3 i = ga st 3 i ∧ ga M' 21 i = ga M 21 i) (e3n : ga st' 3 dp = nI n ∧ ga M' 21 dp = nI n) : SI z' st' M' F (n + 1) (c + 1) (dp + 1) (fun i => if i = dp then n else s i) := by
  obtain ⟨⟨a5, a6, a63, a23, a4, a22, l1, l2, l3⟩, h2, h3, h4, h5, h6⟩ := h
  have n28 : ¬ ga z' 0 n = 28 := fun q => by rw [q] at hS; exact SC_28 hS
  have zp : ∀ k, k < n → ZP z M 4160 k → ZP z' M' 4160 k := fun k hk q => by
    unfold ZP at *
    rw [hM _ (by omega) (by omega), (rw_ k hk).2.2.2.2]
    exact q
  have op : ∀ k, k < n → (opn z' k ↔ opn z k) := fun k hk => opn_row (rw_ k hk).1
  have ns : ∀ k, k < n → NS s dp k → NS (fun i => if i = dp then n else s i) (dp + 1) k := fun k hk q i hi => by
    show ¬ (if i = dp then n else s i) = k
    by_cases c1 : i = dp
    · rw [if_pos c1]; omega
    · rw [if_neg c1]; exact q i (by omega)
  refine ⟨⟨e5, e6, e63, e23, e4, e22, by omega, by omega, by omega⟩, fun i hi => ?_, fun i j hij hj => ?_, fun k hk => ?_, fun k hk ok => ?_, fun k hk ek => ?_⟩
  · by_cases c1 : i = dp
    · simp only [if_pos c1]
      rw [c1]
      exact ⟨e3n.1, e3n.2, by omega, ho⟩
    · simp only [if_neg c1]
      obtain ⟨q1, q2, q3, q4⟩ := h2 i (by omega)
      exact ⟨(e3 i (by omega)).1.trans q1, (e3 i (by omega)).2.trans q2, by omega, (op _ q3).2 q4⟩
  · show (if i = dp then n else s i) < (if j = dp then n else s j)
    rw [if_neg (by omega)]
    by_cases c1 : j = dp
    · rw [if_pos c1]; exact (h2 i (by omega)).2.2.1
    · rw [if_neg c1]; exact h3 i j hij (by omega)
  · by_cases c1 : k = n
    · rw [c1]; exact Or.inl hS
    · have hk' : k < n := by omega
      obtain ⟨w0, w1, w2, w3, w4⟩ := rw_ k hk'
      rw [w0, w1, w2, w3, hM _ (by omega) (by omega)]
      rcases h4 k hk' with q | q
      · exact Or.inl (SC_cells (fun j hj => hM _ (by omega) (by omega)) q)
      · exact Or.inr q
  · by_cases c1 : k = n
    · exact Or.inl ⟨dp, by omega, by show (if dp = dp then n else s dp) = k; rw [if_pos rfl, c1]⟩
    · have hk' : k < n := by omega
      rcases h5 k hk' ((op k hk').1 ok) with ⟨i, q1, q2⟩ | ⟨q0, p, p1, p2, p3, p4, p5, p6, p7⟩
      · exact Or.inl ⟨i, by omega, by show (if i = dp then n else s i) = k; rw [if_neg (by omega), q2]⟩
      · refine Or.inr ⟨ns k hk' q0, p, p1, by omega, (rw_ k hk').2.2.2.2.trans p3, zp k hk' p4, (rw_ p p2).1.trans p5, (rw_ p p2).2.2.2.2.trans p6, fun j j1 j2 oj => ?_⟩
        have hj : j < n := by omega
        obtain ⟨r1, q, r2, r3⟩ := p7 j j1 j2 ((op j hj).1 oj)
        exact ⟨ns j hj r1, q, r2, (rw_ j hj).2.2.2.2.trans r3⟩
  · have hk' : k < n := by
      by_cases c1 : k = n
      · rw [c1] at ek; exact absurd ek n28
      · omega
    obtain ⟨q1, p, p1, p2, p3, p4, p5⟩ := h6 k hk' ((rw_ k hk').1.symm.trans ek)
    have hp : p < n := by omega
    exact ⟨zp k hk' q1, p, p1, ns p hp p2, (op p hp).2 p3, (rw_ k hk').2.2.2.2.trans p4, (rw_ p hp).2.2.2.2.trans p5⟩
/-- an end: it closes the last that stands open -/
theorem SI_end {z st M z' st' M' : Rc} {F n c d : Nat} {s : Nat → Nat} (h : SI z st M F n c (d + 1) s) (e5 : gi z' 5 = nI (n + 1)) (e6 : gi z' 6 = nI c) (e63 : ga M' 0 4163 = nI (n + 1)) (e23 : gi M' 23 = nI c) (rw_ : ∀ k, k < n → ga z' 0 k = ga z 0 k ∧ ga z' 1 k = ga z 1 k ∧ ga z' 2 k = ga z 2 k ∧ ga z' 3 k = ga z 3 k) (r4 : ∀ k, k < n → ¬ k = s d → ga z' 4 k = ga z 4 k) (r4s : ga z' 4 (s d) = nI n) (r0n : ga z' 0 n = 28) (r4n : ga z' 4 n = nI (s d)) (hM : ∀ k, 4830 ≤ k → k < 4830 + 6 * n → ¬ k = 4830 + 6 * s d + 4 → ga M' 0 k = ga M 0 k) (m4s : ga M' 0 (4830 + 6 * s d + 4) = nI n) (m0n : ga M' 0 (4830 + 6 * n) = 25) (m4n : ga M' 0 (4830 + 6 * n + 4) = nI (s d)) (e4 : gi st' 4 = nI d) (e22 : gi M' 22 = nI d) (e3 : ∀ i, i < d → ga st' 3 i = ga st 3 i ∧ ga M' 21 i = ga M 21 i) : SI z' st' M' F (n + 1) c d s := by
  obtain ⟨⟨a5, a6, a63, a23, a4, a22, l1, l2, l3⟩, h2, h3, h4, h5, h6⟩ := h
  obtain ⟨-, -, hs, hos⟩ := h2 d (by omega)
  have op : ∀ k, k < n → (opn z' k ↔ opn z k) := fun k hk => opn_row (rw_ k hk).1
  have nn : ¬ opn z' n := fun q => by
    unfold opn at q
    rw [r0n] at q
    exact absurd q (by decide)
  have zp : ∀ k, k < n → ¬ k = s d → ZP z M 4160 k → ZP z' M' 4160 k := fun k hk hne q => by
    unfold ZP at *
    rw [hM _ (by omega) (by omega) (by omega), r4 k hk hne]
    exact q
  have ns : ∀ k, NS s (d + 1) k → NS s d k := fun k q i hi => q i (by omega)
  have ned : ∀ k, NS s (d + 1) k → ¬ k = s d := fun k q e => q d (by omega) e.symm
  have nsd : NS s d (s d) := fun i hi e => by have := h3 i d hi (by omega); omega
  have scell : ∀ k, k < n → ∀ {κ σ v f : Int32}, SC_ κ σ v f M (4830 + 6 * k) F → SC_ κ σ v f M' (4830 + 6 * k) F := fun k hk {κ σ v f} q => by
    unfold SC_ at *
    rw [hM _ (by omega) (by omega) (by omega), hM (4830 + 6 * k + 1) (by omega) (by omega) (by omega), hM (4830 + 6 * k + 2) (by omega) (by omega) (by omega), hM (4830 + 6 * k + 5) (by omega) (by omega) (by omega)]
    exact q
  refine ⟨⟨e5, e6, e63, e23, e4, e22, by omega, by omega, by omega⟩, fun i hi => ?_, fun i j hij hj => h3 i j hij (by omega), fun k hk => ?_, fun k hk ok => ?_, fun k hk ek => ?_⟩
  · obtain ⟨q1, q2, q3, q4⟩ := h2 i (by omega)
    exact ⟨(e3 i hi).1.trans q1, (e3 i hi).2.trans q2, by omega, (op _ q3).2 q4⟩
  · by_cases c1 : k = n
    · rw [c1]; exact Or.inr ⟨r0n, m0n⟩
    · have hk' : k < n := by omega
      obtain ⟨w0, w1, w2, w3⟩ := rw_ k hk'
      rw [w0, w1, w2, w3]
      rcases h4 k hk' with q | q
      · exact Or.inl (scell k hk' q)
      · exact Or.inr ⟨q.1, (hM _ (by omega) (by omega) (by omega)).trans q.2⟩
  · have hk' : k < n := by
      by_cases c1 : k = n
      · rw [c1] at ok; exact absurd ok nn
      · omega
    by_cases c2 : k = s d
    · right
      subst c2
      refine ⟨nsd, n, hs, by omega, r4s, ?_, r0n, r4n, fun j j1 j2 oj => ?_⟩
      · unfold ZP
        rw [r4s]; exact m4s
      · rcases h5 j j2 ((op j j2).1 oj) with ⟨i, q1, q2⟩ | ⟨q0, p, p1, p2, p3, -⟩
        · by_cases c3 : i = d
          · rw [c3] at q2; omega
          · have := h3 i d (by omega) (by omega); omega
        · exact ⟨ns j q0, p, p2, (r4 j j2 (by omega)).trans p3⟩
    · rcases h5 k hk' ((op k hk').1 ok) with ⟨i, q1, q2⟩ | ⟨q0, p, p1, p2, p3, p4, p5, p6, p7⟩
      · by_cases c3 : i = d
        · rw [c3] at q2; exact absurd q2.symm c2
        · exact Or.inl ⟨i, by omega, q2⟩
      · have hps : ¬ p = s d := fun e => by
          rw [e] at p5
          unfold opn at hos
          rw [p5] at hos
          exact absurd hos (by decide)
        refine Or.inr ⟨ns k q0, p, p1, by omega, (r4 k hk' c2).trans p3, zp k hk' c2 p4, (rw_ p p2).1.trans p5, (r4 p p2 hps).trans p6, fun j j1 j2 oj => ?_⟩
        have hj : j < n := by omega
        obtain ⟨r1, q, r2, r3⟩ := p7 j j1 j2 ((op j hj).1 oj)
        exact ⟨ns j r1, q, r2, (r4 j hj (ned j r1)).trans r3⟩
  · by_cases c1 : k = n
    · rw [c1]
      refine ⟨?_, s d, hs, nsd, (op _ hs).2 hos, r4n, r4s⟩
      unfold ZP
      rw [r4n]; exact m4n
    · have hk' : k < n := by omega
      have ek' : ga z 0 k = 28 := (rw_ k hk').1.symm.trans ek
      have hks : ¬ k = s d := fun e => by
        rw [e] at ek'
        unfold opn at hos
        rw [ek'] at hos
        exact absurd hos (by decide)
      obtain ⟨q1, p, p1, p2, p3, p4, p5⟩ := h6 k hk' ek'
      have hp : p < n := by omega
      exact ⟨zp k hk' hks q1, p, p1, ns p p2, (op p hp).2 p3, (r4 k hk' hks).trans p4, (r4 p hp (ned p p2)).trans p5⟩
