/-! ===== (B) numbers, bits, loops: pure rows ===== -/
theorem inbn {k n : Nat} (h : k < n) (hn : n < 2 ^ 31) : inb (nI k) n = true := inb_of (by rw [nI_toInt (by omega)]; omega) (by rw [nI_toInt (by omega)]; omega)
/-- n times, from 0 on -/
def itr {α : Type} (f : Nat → α → α) (a : α) : Nat → α
  | 0 => a
  | n + 1 => f n (itr f a n)
theorem itr_succ {α : Type} (f : Nat → α → α) (a : α) (n : Nat) : itr f a (n + 1) = f n (itr f a n) := rfl
theorem itr_zero {α : Type} (f : Nat → α → α) (a : α) : itr f a 0 = a := rfl
theorem itr_cong {α : Type} {f g : Nat → α → α} {a : α} : ∀ {n : Nat}, (∀ k, k < n → ∀ x, f k x = g k x) → itr f a n = itr g a n := by
  intro n
  induction n with
  | zero => intro _; rfl
  | succ n ih => intro h; rw [itr_succ, itr_succ, ih (fun k hk => h k (by omega)), h n (by omega)]
/-- a counting loop whose number stands behind what it gathers -/
theorem loop_for {α ρ : Type} {b : α × Int32 → Option ((α × Int32) ⊕ ρ)} (f : Nat → α → α) (a : α) (N : Nat) {r : ρ} (hs : ∀ i, i < N → b (itr f a i, nI i) = some (.inl (f i (itr f a i), nI (i + 1)))) (he : b (itr f a N, nI N) = some (.inr r)) : loopF b (a, (0 : Int32)) = some r :=
  loopF_run (b := b) (fun i => (itr f a i, nI i)) N hs he
theorem loop_from {α ρ : Type} {b : α × Int32 → Option ((α × Int32) ⊕ ρ)} (f : Nat → α → α) (a : α) (d N : Nat) {r : ρ} (hs : ∀ i, i < N → b (itr f a i, nI (d + i)) = some (.inl (f i (itr f a i), nI (d + (i + 1))))) (he : b (itr f a N, nI (d + N)) = some (.inr r)) : loopF b (a, nI d) = some r :=
  loopF_run (b := b) (fun i => (itr f a i, nI (d + i))) N hs he
/-- the number stands ahead of it -/
theorem loop_forI {α ρ : Type} {b : Int32 × α → Option ((Int32 × α) ⊕ ρ)} (f : Nat → α → α) (a : α) (N : Nat) {r : ρ} (hs : ∀ i, i < N → b (nI i, itr f a i) = some (.inl (nI (i + 1), f i (itr f a i)))) (he : b (nI N, itr f a N) = some (.inr r)) : loopF b ((0 : Int32), a) = some r :=
  loopF_run (b := b) (fun i => (nI i, itr f a i)) N hs he
/-- bits of a long -/
def tb (x : Int64) (k : Nat) : Bool := x.toBitVec.getLsbD k
theorem tb_ext {x y : Int64} (h : ∀ k, k < 64 → tb x k = tb y k) : x = y := Int64.toBitVec_inj.mp (BitVec.eq_of_getLsbD_eq (fun i hi => h i hi))
theorem tb_ge {x : Int64} {k : Nat} (h : 64 ≤ k) : tb x k = false := BitVec.getLsbD_of_ge _ _ h
theorem tb_zero (k : Nat) : tb 0 k = false := BitVec.getLsbD_zero
theorem tb_and (x y : Int64) (k : Nat) : tb (x &&& y) k = (tb x k && tb y k) := by unfold tb; rw [Int64.toBitVec_and, BitVec.getLsbD_and]
theorem tb_or (x y : Int64) (k : Nat) : tb (x ||| y) k = (tb x k || tb y k) := by unfold tb; rw [Int64.toBitVec_or, BitVec.getLsbD_or]
theorem tb_xor (x y : Int64) (k : Nat) : tb (x ^^^ y) k = (tb x k ^^ tb y k) := by unfold tb; rw [Int64.toBitVec_xor, BitVec.getLsbD_xor]
theorem tb_m1 : ∀ k, k < 64 → tb (-1) k = true := by decide +kernel
theorem tb_not {x : Int64} {k : Nat} (h : k < 64) : tb (x ^^^ (-1)) k = !tb x k := by rw [tb_xor, tb_m1 k h, Bool.xor_true]
theorem sl64 : ∀ n, n < 64 → (((nI n).toInt64 &&& 63).toBitVec.smod 64).toNat = n := by decide +kernel
theorem su64 : ∀ n, n < 64 → (((nI n).toInt64.toUInt64 &&& Int64.toUInt64 63).toBitVec % 64).toNat = n := by decide +kernel
theorem tb_shl {n : Nat} (hn : n < 64) (x : Int64) {i : Nat} (hi : i < 64) : tb (x <<< ((nI n).toInt64 &&& 63)) i = (decide (n ≤ i) && tb x (i - n)) := by
  unfold tb
  rw [Int64.toBitVec_shiftLeft]
  show (x.toBitVec <<< (((nI n).toInt64 &&& 63).toBitVec.smod 64).toNat).getLsbD i = _
  rw [sl64 n hn, BitVec.getLsbD_shiftLeft]
  rcases Nat.lt_or_ge i n with h | h
  · simp [h, Nat.not_le.mpr h]
  · simp [hi, h, Nat.not_lt.mpr h]
theorem tb_ushr {n : Nat} (hn : n < 64) (x : Int64) (i : Nat) : tb ((x.toUInt64 >>> ((nI n).toInt64.toUInt64 &&& Int64.toUInt64 63)).toInt64) i = tb x (n + i) := by
  show (x.toUInt64 >>> ((nI n).toInt64.toUInt64 &&& Int64.toUInt64 63)).toBitVec.getLsbD i = x.toUInt64.toBitVec.getLsbD (n + i)
  rw [UInt64.toBitVec_shiftRight]
  show (x.toUInt64.toBitVec >>> (((nI n).toInt64.toUInt64 &&& Int64.toUInt64 63).toBitVec % 64).toNat).getLsbD i = _
  rw [su64 n hn, BitVec.getLsbD_ushiftRight]
theorem tb_1 (k : Nat) : tb 1 k = decide (k = 0) := by
  by_cases h : k < 64
  · exact (by decide +kernel : ∀ k, k < 64 → tb 1 k = decide (k = 0)) k h
  · rw [tb_ge (by omega)]; simp; omega
theorem tb_one {n : Nat} (hn : n < 64) {i : Nat} (hi : i < 64) : tb ((1 : Int64) <<< ((nI n).toInt64 &&& 63)) i = decide (i = n) := by
  rw [tb_shl hn 1 hi, tb_1]
  by_cases h : i = n
  · subst h; simp
  · by_cases h2 : n ≤ i
    · simp [h, h2]; omega
    · simp [h, h2]
/-- one bit, as a number -/
def b1 (b : Bool) : Int32 := if b = true then 1 else 0
def b1L (b : Bool) : Int64 := if b = true then 1 else 0
theorem tb_bit {n : Nat} (hn : n < 64) (x : Int64) : (((x.toUInt64 >>> ((nI n).toInt64.toUInt64 &&& Int64.toUInt64 63)).toInt64) &&& (1 : Int64)) = b1L (tb x n) := by
  apply tb_ext
  intro k hk
  rw [tb_and, tb_ushr hn, tb_1]
  cases h : tb x n with
  | true =>
    show _ = tb 1 k
    rw [tb_1]
    by_cases hk0 : k = 0
    · subst hk0; simp [h]
    · simp [hk0]
  | false =>
    show _ = tb 0 k
    rw [tb_zero]
    by_cases hk0 : k = 0
    · subst hk0; simp [h]
    · simp [hk0]
theorem b1L_32 (b : Bool) : (b1L b).toInt32 = b1 b := by cases b <;> decide
theorem b1L_0 (b : Bool) : b1L b = 0 ↔ b = false := by cases b <;> decide
theorem b1_0 (b : Bool) : b1 b = 0 ↔ b = false := by cases b <;> decide
theorem b1_1 (b : Bool) : b1 b = 1 ↔ b = true := by cases b <;> decide
theorem b1_inj {a b : Bool} : b1 a = b1 b ↔ a = b := by cases a <;> cases b <;> decide
theorem tb_bit32 {n : Nat} (hn : n < 64) (x : Int64) : ((((x.toUInt64 >>> ((nI n).toInt64.toUInt64 &&& Int64.toUInt64 63)).toInt64) &&& (1 : Int64)).toInt32) = b1 (tb x n) := by rw [tb_bit hn, b1L_32]
theorem tb_first : ∀ n, n < 62 → ∀ k, k < 64 → tb (fX10_firstDays (nI n)) k = decide (k < n) := by
  unfold fX10_firstDays
  decide +kernel
/-- sets of farmers: bits of a number below 256 -/
def mk (p : Nat → Bool) : Nat → Nat
  | 0 => 0
  | n + 1 => if p n = true then mk p n ||| 2 ^ n else mk p n
theorem mk_succ (p : Nat → Bool) (n : Nat) : mk p (n + 1) = if p n = true then mk p n ||| 2 ^ n else mk p n := rfl
theorem mk_lt (p : Nat → Bool) : ∀ n, mk p n < 2 ^ n := by
  intro n
  induction n with
  | zero => exact Nat.one_pos
  | succ n ih =>
    have h1 : 2 ^ n < 2 ^ (n + 1) := Nat.pow_lt_pow_right (by decide) (by omega)
    rw [mk_succ]
    split
    · exact Nat.or_lt_two_pow (by omega) h1
    · omega
theorem mk_bit (p : Nat → Bool) : ∀ n k, (mk p n).testBit k = (decide (k < n) && p k) := by
  intro n
  induction n with
  | zero => intro k; simp [mk]
  | succ n ih =>
    intro k
    rw [mk_succ]
    split
    · rename_i h
      rw [Nat.testBit_or, ih k, Nat.testBit_two_pow]
      by_cases hk : n = k
      · subst hk; simp [h]
      · have : (k < n + 1) ↔ k < n := by omega
        simp [this, hk]
    · rename_i h
      rw [ih k]
      by_cases hk : k = n
      · subst hk; simp at h; simp [h]
      · have : (k < n + 1) ↔ k < n := by omega
        simp [this]
theorem mk_256 (p : Nat → Bool) {n : Nat} (h : n ≤ 8) : mk p n < 256 := Nat.lt_of_lt_of_le (mk_lt p n) (Nat.pow_le_pow_right (by decide) h)
theorem mk_cong {p q : Nat → Bool} : ∀ {n : Nat}, (∀ k, k < n → p k = q k) → mk p n = mk q n := by
  intro n
  induction n with
  | zero => intro _; rfl
  | succ n ih => intro h; rw [mk_succ, mk_succ, ih (fun k hk => h k (by omega)), h n (by omega)]
theorem bits_eq {a b : Nat} (ha : a < 256) (hb : b < 256) (h : ∀ k, k < 8 → a.testBit k = b.testBit k) : a = b := by
  apply Nat.eq_of_testBit_eq
  intro k
  by_cases hk : k < 8
  · exact h k hk
  · have h2 : 2 ^ 8 ≤ 2 ^ k := Nat.pow_le_pow_right (by decide) (by omega)
    rw [Nat.testBit_lt_two_pow (by omega), Nat.testBit_lt_two_pow (by omega)]
theorem nx_and (a b : Nat) : nI a &&& nI b = nI (a &&& b) := by
  apply Int32.toBitVec_inj.1
  show BitVec.ofNat 32 a &&& BitVec.ofNat 32 b = BitVec.ofNat 32 (a &&& b)
  apply BitVec.eq_of_getLsbD_eq
  intro i hi
  simp [hi]
theorem nx_or (a b : Nat) : nI a ||| nI b = nI (a ||| b) := by
  apply Int32.toBitVec_inj.1
  show BitVec.ofNat 32 a ||| BitVec.ofNat 32 b = BitVec.ofNat 32 (a ||| b)
  apply BitVec.eq_of_getLsbD_eq
  intro i hi
  simp [hi]
theorem nx_xor (a b : Nat) : nI a ^^^ nI b = nI (a ^^^ b) := by
  apply Int32.toBitVec_inj.1
  show BitVec.ofNat 32 a ^^^ BitVec.ofNat 32 b = BitVec.ofNat 32 (a ^^^ b)
  apply BitVec.eq_of_getLsbD_eq
  intro i hi
  simp [hi]
theorem nx_one : ∀ f, f < 31 → (1 : Int32) <<< (nI f &&& 31) = nI (2 ^ f) := by decide +kernel
theorem nx_not : ∀ a, a < 256 → ∀ b, b < 256 → nI a &&& (nI b ^^^ (-1)) = nI (a &&& (255 ^^^ b)) := by
  intro a ha b hb
  have e : nI b ^^^ (-1) = nI (b ^^^ 4294967295) := by rw [← nx_xor]; rfl
  rw [e, nx_and]
  congr 1
  apply Nat.eq_of_testBit_eq
  intro k
  rw [Nat.testBit_and, Nat.testBit_and, Nat.testBit_xor, Nat.testBit_xor]
  by_cases hk : k < 8
  · rw [show (4294967295 : Nat) = 2 ^ 32 - 1 from rfl, show (255 : Nat) = 2 ^ 8 - 1 from rfl, Nat.testBit_two_pow_sub_one, Nat.testBit_two_pow_sub_one]
    simp [hk, show k < 32 by omega, Bool.xor_comm]
  · have h2 : 2 ^ 8 ≤ 2 ^ k := Nat.pow_le_pow_right (by decide) (by omega)
    rw [Nat.testBit_lt_two_pow (show a < 2 ^ k by omega)]
    simp
/-- how many of n hold -/
def ct (p : Nat → Bool) : Nat → Nat
  | 0 => 0
  | n + 1 => ct p n + (if p n = true then 1 else 0)
theorem ct_succ (p : Nat → Bool) (n : Nat) : ct p (n + 1) = ct p n + (if p n = true then 1 else 0) := rfl
theorem ct_le (p : Nat → Bool) : ∀ n, ct p n ≤ n := by
  intro n
  induction n with
  | zero => exact Nat.le_refl 0
  | succ n ih => rw [ct_succ]; split <;> omega
theorem ct_cong {p q : Nat → Bool} : ∀ {n : Nat}, (∀ k, k < n → p k = q k) → ct p n = ct q n := by
  intro n
  induction n with
  | zero => intro _; rfl
  | succ n ih => intro h; rw [ct_succ, ct_succ, ih (fun k hk => h k (by omega)), h n (by omega)]
/-- beyond m nothing holds -/
theorem ct_cut {p : Nat → Bool} {m : Nat} (h : ∀ k, m ≤ k → p k = false) : ∀ n, m ≤ n → ct p n = ct p m := by
  intro n
  induction n with
  | zero => intro hm; rw [show m = 0 by omega]
  | succ n ih =>
    intro hm
    rcases Nat.lt_or_ge n m with h1 | h1
    · rw [show m = n + 1 by omega]
    · rw [ct_succ, h n h1, ih h1]; rfl
theorem bc32_all : ∀ m, m < 256 → fJ6_bitCount_0f7a4 (nI m) = nI (ct m.testBit 8) := by
  unfold fJ6_bitCount_0f7a4 lt_
  decide +kernel
