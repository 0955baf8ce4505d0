/-! ===== records, guards, loops, contracts: what the printed rows of the later parts are made of ===== -/
/-- what an object holds: its ints, its longs, its int (or byte) rows, its long rows, by the number of the field -/
abbrev Rc : Type := (Nat → Int32) × (Nat → Int64) × (Nat → Nat → Int32) × (Nat → Nat → Int64)
def gi (s : Rc) (k : Nat) : Int32 := s.1 k
def gl (s : Rc) (k : Nat) : Int64 := s.2.1 k
def ga (s : Rc) (k : Nat) : Nat → Int32 := s.2.2.1 k
def gb (s : Rc) (k : Nat) : Nat → Int64 := s.2.2.2 k
def si (s : Rc) (k : Nat) (v : Int32) : Rc := (va_up s.1 k v, s.2)
def sl (s : Rc) (k : Nat) (v : Int64) : Rc := (s.1, va_up s.2.1 k v, s.2.2)
def sa (s : Rc) (k : Nat) (v : Nat → Int32) : Rc := (s.1, s.2.1, va_up s.2.2.1 k v, s.2.2.2)
def sb (s : Rc) (k : Nat) (v : Nat → Int64) : Rc := (s.1, s.2.1, s.2.2.1, va_up s.2.2.2 k v)
theorem gi_si (s : Rc) (k j : Nat) (v : Int32) : gi (si s k v) j = if j = k then v else gi s j := rfl
theorem gi_sl (s : Rc) (k j : Nat) (v : Int64) : gi (sl s k v) j = gi s j := rfl
theorem gi_sa (s : Rc) (k j : Nat) (v : Nat → Int32) : gi (sa s k v) j = gi s j := rfl
theorem gi_sb (s : Rc) (k j : Nat) (v : Nat → Int64) : gi (sb s k v) j = gi s j := rfl
theorem gl_si (s : Rc) (k j : Nat) (v : Int32) : gl (si s k v) j = gl s j := rfl
theorem gl_sl (s : Rc) (k j : Nat) (v : Int64) : gl (sl s k v) j = if j = k then v else gl s j := rfl
theorem gl_sa (s : Rc) (k j : Nat) (v : Nat → Int32) : gl (sa s k v) j = gl s j := rfl
theorem gl_sb (s : Rc) (k j : Nat) (v : Nat → Int64) : gl (sb s k v) j = gl s j := rfl
theorem ga_si (s : Rc) (k j : Nat) (v : Int32) : ga (si s k v) j = ga s j := rfl
theorem ga_sl (s : Rc) (k j : Nat) (v : Int64) : ga (sl s k v) j = ga s j := rfl
theorem ga_sa (s : Rc) (k j : Nat) (v : Nat → Int32) : ga (sa s k v) j = if j = k then v else ga s j := rfl
theorem ga_sb (s : Rc) (k j : Nat) (v : Nat → Int64) : ga (sb s k v) j = ga s j := rfl
theorem gb_si (s : Rc) (k j : Nat) (v : Int32) : gb (si s k v) j = gb s j := rfl
theorem gb_sl (s : Rc) (k j : Nat) (v : Int64) : gb (sl s k v) j = gb s j := rfl
theorem gb_sa (s : Rc) (k j : Nat) (v : Nat → Int32) : gb (sa s k v) j = gb s j := rfl
theorem gb_sb (s : Rc) (k j : Nat) (v : Nat → Int64) : gb (sb s k v) j = if j = k then v else gb s j := rfl
/-- an index that is in a row of n -/
def inb (i : Int32) (n : Nat) : Bool := decide (0 ≤ i.toInt ∧ i.toInt < (n : Int))
theorem inb_in {i : Int32} {n : Nat} (h : inb i n = true) : vp_in i n := vp_in_iff.mpr (of_decide_eq_true h)
theorem inb_of {i : Int32} {n : Nat} (h0 : 0 ≤ i.toInt) (h1 : i.toInt < (n : Int)) : inb i n = true := decide_eq_true ⟨h0, h1⟩
/-- a divisor that is not 0 -/
def nz32 (x : Int32) : Bool := !(decide (x = 0))
def nz64 (x : Int64) : Bool := !(decide (x = 0))
theorem nz32_ne {x : Int32} (h : nz32 x = true) : ¬ x = 0 := fun q => by rw [q] at h; exact absurd h (by decide)
theorem nz64_ne {x : Int64} (h : nz64 x = true) : ¬ x = 0 := fun q => by rw [q] at h; exact absurd h (by decide)
/-- a truth value -/
def isb (x : Int32) : Bool := decide (x = 0) || decide (x = 1)
theorem isb_cases {x : Int32} (h : isb x = true) : x = 0 ∨ x = 1 := by
  unfold isb at h
  rcases (Bool.or_eq_true _ _).mp h with h | h
  · exact Or.inl (of_decide_eq_true h)
  · exact Or.inr (of_decide_eq_true h)
theorem isb_nar {x : Int32} (h : isb x = true) : narrow .boolean (.int x) = .int x := by
  rcases isb_cases h with h | h <;> (subst h; decide)
theorem isb_fit {x : Int32} (h : isb x = true) : fits .boolean (.int x) = true := by
  rcases isb_cases h with h | h <;> (subst h; decide)
/-- a guard -/
def gd {α : Type} (c : Bool) (x : Option α) : Option α := if c = true then x else none
theorem gd_elim {α : Type} {c : Bool} {x : Option α} {r : α} (h : gd c x = some r) : c = true ∧ x = some r := by
  unfold gd at h
  by_cases hc : c = true
  · rw [if_pos hc] at h; exact ⟨hc, h⟩
  · rw [if_neg hc] at h; cases h
theorem gd_pos {α : Type} {c : Bool} (h : c = true) (x : Option α) : gd c x = x := if_pos h
/-- a name for a value -/
def lt_ {α β : Type} (e : α) (k : α → β) : β := k e
theorem lt_elim {α β : Type} {e : α} {k : α → β} {r : β} (h : lt_ e k = r) : ∃ x, x = e ∧ k x = r := ⟨e, rfl, h⟩
theorem lt_use {α β : Type} {e : α} {k : α → β} {r : β} (h : lt_ e k = r) (x : α) (hx : x = e) : k x = r := by subst hx; exact h
theorem bd_elim {α β : Type} {e : Option α} {k : α → Option β} {r : β} (h : e.bind k = some r) : ∃ x, e = some x ∧ k x = some r := by
  cases e with
  | none => cases h
  | some a => exact ⟨a, rfl, h⟩
/-- a loop: its body says either how it goes on, or how it ends -/
def loopO {σ ρ : Type} (b : σ → Option (σ ⊕ ρ)) : Nat → σ → Option ρ
  | 0, _ => none
  | n + 1, s => (b s).bind fun q => match q with
    | .inl s' => loopO b n s'
    | .inr r => some r
theorem loopO_zero {σ ρ : Type} (b : σ → Option (σ ⊕ ρ)) (s : σ) : loopO b 0 s = none := rfl
theorem loopO_elim {σ ρ : Type} {b : σ → Option (σ ⊕ ρ)} {n : Nat} {s : σ} {r : ρ} (h : loopO b (n + 1) s = some r) :
    ∃ w, b s = some w ∧ (∀ s', w = .inl s' → loopO b n s' = some r) ∧ (∀ v, w = .inr v → v = r) := by
  obtain ⟨w, h1, h2⟩ := bd_elim h
  refine ⟨w, h1, fun s' e => ?_, fun v e => ?_⟩
  · subst e; exact h2
  · subst e; exact Option.some.inj h2
theorem loopO_step {σ ρ : Type} {b : σ → Option (σ ⊕ ρ)} {s s' : σ} (h : b s = some (.inl s')) (n : Nat) : loopO b (n + 1) s = loopO b n s' := by
  show (b s).bind _ = _
  rw [h]; rfl
theorem loopO_stop {σ ρ : Type} {b : σ → Option (σ ⊕ ρ)} {s : σ} {r : ρ} (h : b s = some (.inr r)) (n : Nat) : loopO b (n + 1) s = some r := by
  show (b s).bind _ = _
  rw [h]; rfl
theorem loopO_more {σ ρ : Type} {b : σ → Option (σ ⊕ ρ)} : ∀ {n : Nat} {s : σ} {r : ρ}, loopO b n s = some r → ∀ k, loopO b (n + k) s = some r := by
  intro n
  induction n with
  | zero => intro s r h; cases h
  | succ n ih =>
    intro s r h k
    obtain ⟨w, h1, h2, h3⟩ := loopO_elim h
    rw [show n + 1 + k = (n + k) + 1 by omega]
    cases w with
    | inl s' => rw [loopO_step h1]; exact ih (h2 s' rfl) k
    | inr v => rw [loopO_stop h1, h3 v rfl]
noncomputable def loopF {σ ρ : Type} (b : σ → Option (σ ⊕ ρ)) (s : σ) : Option ρ := @dite _ (∃ n r, loopO b n s = some r) (Classical.propDecidable _) (fun h => loopO b h.choose s) (fun _ => none)
theorem loopF_some {σ ρ : Type} {b : σ → Option (σ ⊕ ρ)} {s : σ} {r : ρ} (h : loopF b s = some r) : ∃ n, loopO b n s = some r := by
  unfold loopF at h
  by_cases c : ∃ n r, loopO b n s = some r
  · rw [dif_pos c] at h; exact ⟨_, h⟩
  · rw [dif_neg c] at h; cases h
theorem loopF_of {σ ρ : Type} {b : σ → Option (σ ⊕ ρ)} {s : σ} {r : ρ} {n : Nat} (h : loopO b n s = some r) : loopF b s = some r := by
  have c : ∃ n r, loopO b n s = some r := ⟨n, r, h⟩
  unfold loopF
  rw [dif_pos c]
  obtain ⟨r2, h2⟩ := c.choose_spec
  rw [h2, ← loopO_more h2 n, Nat.add_comm, loopO_more h]
/-- the loop's own states, one behind the other, up to its end -/
theorem loopF_run {σ ρ : Type} {b : σ → Option (σ ⊕ ρ)} (st : Nat → σ) (N : Nat) {r : ρ} (hs : ∀ i, i < N → b (st i) = some (.inl (st (i + 1)))) (he : b (st N) = some (.inr r)) : loopF b (st 0) = some r := by
  have key : ∀ k i, i + k = N → loopO b (k + 1) (st i) = some r := by
    intro k
    induction k with
    | zero => intro i hi; rw [Nat.add_zero] at hi; subst hi; exact loopO_stop he 0
    | succ k ih => intro i hi; rw [loopO_step (hs i (by omega))]; exact ih (i + 1) (by omega)
  exact loopF_of (key N 0 (by omega))
theorem loopF_stop {σ ρ : Type} {b : σ → Option (σ ⊕ ρ)} {s : σ} {r : ρ} (h : b s = some (.inr r)) : loopF b s = some r := loopF_of (loopO_stop h 0)
theorem loopF_step {σ ρ : Type} {b : σ → Option (σ ⊕ ρ)} {s s' : σ} {r : ρ} (h : b s = some (.inl s')) (h2 : loopF b s' = some r) : loopF b s = some r := by
  obtain ⟨n, hn⟩ := loopF_some h2
  exact loopF_of (n := n + 1) (by rw [loopO_step h]; exact hn)
/-- addresses, listed -/
def adv (l : List Nat) : Nat → Nat := fun k => l.getD k 0
/-- the array classes: bytes, ints, longs -/
abbrev tyL (cy : Nat → ClassId) : List (ClassId × FieldType) := [(cy 0, .byte), (cy 1, .int), (cy 2, .long)]
/-- what System.arraycopy wants of one side -/
def cpb (o n : Int32) (N : Nat) : Bool := decide (0 ≤ o.toInt ∧ 0 ≤ n.toInt ∧ o.toInt + n.toInt ≤ (N : Int))
theorem cpb_nn {x : Int32} (h : 0 ≤ x.toInt) : ¬ x < 0 := fun q => by
  have := Int32.lt_iff_toInt_lt.mp q
  rw [show (0 : Int32).toInt = 0 from rfl] at this
  omega
theorem cpb_1 {o n : Int32} {N : Nat} (h : cpb o n N = true) : ¬ o < 0 := cpb_nn (of_decide_eq_true h).1
theorem cpb_2 {o n : Int32} {N : Nat} (h : cpb o n N = true) : ¬ n < 0 := cpb_nn (of_decide_eq_true h).2.1
theorem cpb_3 {o n : Int32} {N : Nat} (h : cpb o n N = true) : o.toNatClampNeg + n.toNatClampNeg ≤ N := by
  obtain ⟨h1, h2, h3⟩ := of_decide_eq_true h
  have e1 : o.toNatClampNeg = o.toInt.toNat := rfl
  have e2 : n.toNatClampNeg = n.toInt.toNat := rfl
  omega
