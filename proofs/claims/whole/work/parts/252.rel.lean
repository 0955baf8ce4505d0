/-! ===== (B) the relation ===== -/
/-- a season of the class, and the steps of the reference's slot from o on -/
def ZN (z M : Rc) (o k i : Nat) : Prop := ga M 0 (o + 670 + 6 * k + i) = ga z 3 k
def ZF (z M : Rc) (o k : Nat) : Prop := ga M 0 (o + 670 + 6 * k + 1) = ga z 1 k
def ZP (z M : Rc) (o k : Nat) : Prop := ga M 0 (o + 670 + 6 * k + 4) = ga z 4 k
def ZG (z M : Rc) (o k : Nat) : Prop := ga M 0 (o + 670 + 6 * k + 5) = ga z 2 k
def nr (x : Int32) (a b : Int) : Prop := a ≤ x.toInt ∧ x.toInt ≤ b
def ff (z b : Rc) (k : Nat) : Prop := 0 ≤ (ga z 1 k).toInt ∧ (ga z 1 k).toInt < cF b
/-- it holds others -/
def opn (z : Rc) (k : Nat) : Prop := ga z 0 k = 24 ∨ ga z 0 k = 25 ∨ ga z 0 k = 26 ∨ ga z 0 k = 27
def ZR (z b M : Rc) (o n k : Nat) : Prop :=
  ga M 0 (o + 670 + 6 * k) = kmap (ga z 0 k) ∧
  ((ga z 0 k = 14 ∧ ZN z M o k 1 ∧ nr (ga z 3 k) 0 16) ∨ ga z 0 k = 15 ∨ ga z 0 k = 16 ∨ ga z 0 k = 17 ∨
   (ga z 0 k = 18 ∧ ZF z M o k ∧ ff z b k ∧ ZN z M o k 2 ∧ nr (ga z 3 k) 0 59) ∨
   (ga z 0 k = 20 ∧ ZF z M o k ∧ ff z b k ∧ ZN z M o k 2 ∧ nr (ga z 3 k) 0 60) ∨
   (ga z 0 k = 21 ∧ ZF z M o k ∧ ff z b k ∧ ZN z M o k 2 ∧ nr (ga z 3 k) 0 16) ∨
   (ga z 0 k = 22 ∧ ZN z M o k 1 ∧ nr (ga z 3 k) 0 59) ∨
   (ga z 0 k = 24 ∧ ZN z M o k 1 ∧ nr (ga z 3 k) 0 62) ∨
   (ga z 0 k = 25 ∧ ZF z M o k ∧ ff z b k ∧ ZN z M o k 2 ∧ ZG z M o k) ∨
   (ga z 0 k = 26 ∧ ZN z M o k 2 ∧ ZG z M o k) ∨
   (ga z 0 k = 27 ∧ ZN z M o k 1 ∧ nr (ga z 3 k) 1 99) ∨
   ga z 0 k = 28 ∨ ga z 0 k = 29) ∧
  (opn z k → ZP z M o k ∧ ∃ p, k < p ∧ p < n ∧ ga z 4 k = nI p ∧ ga z 0 p = 28 ∧ ga z 4 p = nI k) ∧
  (ga z 0 k = 28 → ZP z M o k ∧ ∃ p, p < k ∧ opn z p ∧ ga z 4 k = nI p ∧ ga z 4 p = nI k)
/-- what stands in another stands in it whole -/
def ZI (z : Rc) (n : Nat) : Prop := ∀ k j p q, k < n → j < n → opn z k → opn z j → ga z 4 k = nI p → ga z 4 j = nI q → k < j → j < p → p < n → q < n → q < p
def RZ (z b M : Rc) (o : Nat) : Prop :=
  (gi z 7 = 0 ∧ ga M 0 (o + 3) = -1) ∨ (gi z 7 = 1 ∧ ∃ n, n ≤ 60 ∧ gi z 5 = nI n ∧ ga M 0 (o + 3) = nI n ∧ (∀ k, k < n → ZR z b M o n k) ∧ ZI z n)
/-- the class' words -/
def kw : List (List Nat) := [[6,1,18,13,5,18], [1,8,5,1,4], [2,5,8,9,14,4], [6,1,9,12,19], [6,1,12,19,5], [5,12,2,15,23], [3,21,18,5,4], [4,9,19,12,9,11,5,19], [23,5,1,20,8,5,18], [22,15,20,5], [13,15,19,20], [23,5,9,7,8,20,19], [1,14,25], [1,12,12], [18,1,9,14], [4,18,25], [8,1,9,12], [6,5,5,12], [12,9,5], [15,14], [3,21,18,5], [2,18,1,14,4,25], [12,5,1,18,14], [23,8,5,14], [19,1,25,19], [20,18,21,19,20], [4,1,25,19], [12,15,15,16], [5,14,4], [19,20,15,16]]
def KWD (tk : Rc) : Prop := ∀ k, k < 30 → gb tk 1 k = pk5 (kw.getD k [])
/-- marks: the i-th is there -/
def RM (b z M : Rc) (i : Nat) : Prop := RB b M (1040 * (i + 1)) (8 * (i + 1)) ∧ RZ z b M (1040 * (i + 1))
def RMs (sg : Nat → Rc) (M : Rc) : Prop := (0 < (gi (sg 0) 15).toInt → RM (sg 6) (sg 7) M 0) ∧ (1 < (gi (sg 0) 15).toInt → RM (sg 9) (sg 10) M 1) ∧ (2 < (gi (sg 0) 15).toInt → RM (sg 12) (sg 13) M 2)
def Rel (sg : Nat → Rc) (M : Rc) : Prop := RS (sg 0) M ∧ RB (sg 1) M 0 0 ∧ RZ (sg 2) (sg 1) M 0 ∧ RMs sg M ∧ RT (sg 14) M ∧ (RK (sg 15) M ∧ KWD (sg 15)) ∧ RL_ (sg 18) M ∧ RW_ (sg 23) M ∧ gi M 25 = -1 ∧ gi M 26 = 0
theorem rel_st {sg : Nat → Rc} {M : Rc} (h : Rel sg M) (v : Int32) : Rel (va_up sg 0 (si (sg 0) 16 v)) (si M 2 v) := by
  obtain ⟨h1, h2, h3, h4, h5, h6, h7, h8, h9, h10⟩ := h
  exact ⟨st_eq h1 v, h2, h3, h4, h5, h6, h7, h8, h9, h10⟩
theorem bt_q {sg : Nat → Rc} {M : Rc} {c m : Option (Int32 × Rc)} (hR : Rel sg M) (h : QQ c m (sg 0) M) : ∃ (r1 : Int32 × Rc) (r2 : Int32 × Rc), c = some r1 ∧ m = some r2 ∧ r1.1 = r2.1 ∧ Rel (va_up sg 0 r1.2) r2.2 := by
  obtain ⟨v, st, e1, e2⟩ := h
  exact ⟨_, _, e1, e2, rfl, rel_st hR st⟩
theorem va_up_id {α : Type} (f : Nat → α) (k : Nat) {v : α} (h : f k = v) : va_up f k v = f := by
  funext j
  unfold va_up
  split
  · rename_i e; rw [e, h]
  · rfl
theorem va_up_up {α : Type} (f : Nat → α) (k : Nat) (v w : α) : va_up (va_up f k v) k w = va_up f k w := by
  funext j
  unfold va_up
  split <;> rfl
theorem qq_ans {kb M : Rc} (v : Int32) : QQ (some (fX10_answer v kb)) (some (fX11_gives v M)) kb M := ⟨v, 0, rfl, rfl⟩
theorem qq_ref {kb M : Rc} (v : Int32) : QQ (some (fX10_refuse v kb)) (some (fX11_refuse v M)) kb M := ⟨-1, v, rfl, rfl⟩
theorem qq_any {kb M : Rc} (v : Int32) : QQ (some (fX10_answerIfAny v kb)) (some (fX11_orNone v M)) kb M := by
  rw [ifAny_eq, orNone_eq]
  split
  · exact ⟨-1, 6, rfl, rfl⟩
  · exact ⟨v, 0, rfl, rfl⟩
