/-! ===== (B) Long.bitCount counts the bits ===== -/
def bval : List Nat → Nat
  | [] => 0
  | a :: l => a + 256 * bval l
def brep (c : Nat) : Nat → Nat
  | 0 => 0
  | k + 1 => c + 256 * brep c k
theorem and_blk {a c : Nat} (b d : Nat) (ha : a < 256) (hc : c < 256) : (a + 256 * b) &&& (c + 256 * d) = (a &&& c) + 256 * (b &&& d) := by
  have h1 : ((a + 256 * b) &&& (c + 256 * d)) % 2 ^ 8 = a &&& c := by
    rw [Nat.and_mod_two_pow, show (a + 256 * b) % 2 ^ 8 = a by omega, show (c + 256 * d) % 2 ^ 8 = c by omega]
  have h2 : ((a + 256 * b) &&& (c + 256 * d)) / 2 ^ 8 = b &&& d := by
    rw [Nat.and_div_two_pow, show (a + 256 * b) / 2 ^ 8 = b by omega, show (c + 256 * d) / 2 ^ 8 = d by omega]
  omega
def bs1 (a : Nat) : Nat := a - ((a / 2) &&& 0x55)
def bs2 (a : Nat) : Nat := (a &&& 0x33) + ((a / 4) &&& 0x33)
def bs3 (a : Nat) : Nat := (a + a / 16) &&& 0x0f
theorem bs_a : ∀ a, a < 256 → ∀ e, e < 2 → (a / 2 + 128 * e) &&& 0x55 = (a / 2) &&& 0x55 := by decide +kernel
theorem bs_b : ∀ a, a < 256 → ∀ e, e < 4 → (a / 4 + 64 * e) &&& 0x33 = (a / 4) &&& 0x33 := by decide +kernel
theorem bs_c : ∀ a, a < 256 → bs1 a < 256 ∧ bs2 (bs1 a) < 256 ∧ bs2 (bs1 a) ≤ 68 ∧ bs2 (bs1 a) % 16 ≤ 4 ∧ bs2 (bs1 a) / 16 ≤ 4 ∧ bs3 (bs2 (bs1 a)) = ct a.testBit 8 ∧ bs3 (bs2 (bs1 a)) ≤ 8 := by decide +kernel
theorem bs_d : ∀ a, a < 69 → a % 16 ≤ 4 → ∀ e, e < 5 → (a + a / 16 + 16 * e) &&& 0x0f = (a + a / 16) &&& 0x0f := by decide +kernel
theorem bstep1 : ∀ (l : List Nat), (∀ a ∈ l, a < 256) → bval l - ((bval l / 2) &&& brep 0x55 l.length) = bval (l.map bs1) ∧ ((bval l / 2) &&& brep 0x55 l.length) ≤ bval l := by
  intro l
  induction l with
  | nil => intro _; exact ⟨rfl, Nat.le_refl _⟩
  | cons a l ih =>
    intro h
    have ha := h a List.mem_cons_self
    obtain ⟨i1, i2⟩ := ih (fun x hx => h x (List.mem_cons_of_mem _ hx))
    have e : bval (a :: l) / 2 = (a / 2 + 128 * (bval l % 2)) + 256 * (bval l / 2) := by
      show (a + 256 * bval l) / 2 = _
      omega
    have e2 : (bval (a :: l) / 2) &&& brep 0x55 (a :: l).length = ((a / 2) &&& 0x55) + 256 * ((bval l / 2) &&& brep 0x55 l.length) := by
      rw [e, show brep 0x55 (a :: l).length = 0x55 + 256 * brep 0x55 l.length from rfl, and_blk _ _ (by omega) (by decide), bs_a a ha _ (Nat.mod_lt _ (by decide))]
    have h3 : (a / 2) &&& 0x55 ≤ a := Nat.le_trans Nat.and_le_left (Nat.div_le_self a 2)
    refine ⟨?_, ?_⟩
    · rw [e2, show bval ((a :: l).map bs1) = bs1 a + 256 * bval (l.map bs1) from rfl, ← i1, show bval (a :: l) = a + 256 * bval l from rfl]
      unfold bs1
      omega
    · rw [e2, show bval (a :: l) = a + 256 * bval l from rfl]
      omega
theorem bstep2 : ∀ (l : List Nat), (∀ a ∈ l, a < 256) → (bval l &&& brep 0x33 l.length) + ((bval l / 4) &&& brep 0x33 l.length) = bval (l.map bs2) := by
  intro l
  induction l with
  | nil => intro _; rfl
  | cons a l ih =>
    intro h
    have ha := h a List.mem_cons_self
    have i1 := ih (fun x hx => h x (List.mem_cons_of_mem _ hx))
    have e : bval (a :: l) / 4 = (a / 4 + 64 * (bval l % 4)) + 256 * (bval l / 4) := by
      show (a + 256 * bval l) / 4 = _
      omega
    rw [e, show brep 0x33 (a :: l).length = 0x33 + 256 * brep 0x33 l.length from rfl, and_blk _ _ (by omega) (by decide), bs_b a ha _ (Nat.mod_lt _ (by decide)), show bval (a :: l) = a + 256 * bval l from rfl, and_blk _ _ ha (by decide), show bval ((a :: l).map bs2) = bs2 a + 256 * bval (l.map bs2) from rfl, ← i1]
    unfold bs2
    omega
theorem bval_mod16 : ∀ (l : List Nat), (∀ a ∈ l, a % 16 ≤ 4) → bval l % 16 ≤ 4 := by
  intro l h
  cases l with
  | nil => decide
  | cons a l =>
    have := h a List.mem_cons_self
    show (a + 256 * bval l) % 16 ≤ 4
    omega
theorem bstep3 : ∀ (l : List Nat), (∀ a ∈ l, a ≤ 68 ∧ a % 16 ≤ 4) → (bval l + bval l / 16) &&& brep 0x0f l.length = bval (l.map bs3) := by
  intro l
  induction l with
  | nil => intro _; rfl
  | cons a l ih =>
    intro h
    obtain ⟨h1, h2⟩ := h a List.mem_cons_self
    have i1 := ih (fun x hx => h x (List.mem_cons_of_mem _ hx))
    have hm := bval_mod16 l (fun x hx => (h x (List.mem_cons_of_mem _ hx)).2)
    have e : bval (a :: l) + bval (a :: l) / 16 = (a + a / 16 + 16 * (bval l % 16)) + 256 * (bval l + bval l / 16) := by
      show (a + 256 * bval l) + (a + 256 * bval l) / 16 = _
      omega
    rw [e, show brep 0x0f (a :: l).length = 0x0f + 256 * brep 0x0f l.length from rfl, and_blk _ _ (by omega) (by decide), bs_d a (by omega) h2 _ (by omega), i1]
    rfl
/-- the eight bytes -/
def byt8 (n : Nat) : List Nat := [n % 256, n / 256 % 256, n / 65536 % 256, n / 16777216 % 256, n / 4294967296 % 256, n / 1099511627776 % 256, n / 281474976710656 % 256, n / 72057594037927936 % 256]
theorem byt8_val {n : Nat} (h : n < 18446744073709551616) : bval (byt8 n) = n := by
  unfold byt8 bval bval bval bval bval bval bval bval bval
  omega
theorem ct_split (p : Nat → Bool) (m : Nat) : ∀ n, ct p (m + n) = ct p m + ct (fun k => p (m + k)) n := by
  intro n
  induction n with
  | zero => rfl
  | succ n ih => rw [show m + (n + 1) = (m + n) + 1 by omega, ct_succ, ct_succ, ih]; omega
theorem ct_byte (n k : Nat) : ct (fun i => n.testBit (8 * k + i)) 8 = ct (n / 2 ^ (8 * k) % 256).testBit 8 := by
  apply ct_cong
  intro i hi
  rw [show (256 : Nat) = 2 ^ 8 from rfl, Nat.testBit_mod_two_pow, Nat.testBit_div_two_pow]
  simp [hi, Nat.add_comm]
theorem ct_bytes (n : Nat) : ct n.testBit 64 = ct (n % 256).testBit 8 + (ct (n / 256 % 256).testBit 8 + (ct (n / 65536 % 256).testBit 8 + (ct (n / 16777216 % 256).testBit 8 + (ct (n / 4294967296 % 256).testBit 8 + (ct (n / 1099511627776 % 256).testBit 8 + (ct (n / 281474976710656 % 256).testBit 8 + ct (n / 72057594037927936 % 256).testBit 8)))))) := by
  have b0 := ct_byte n 0
  have b1 := ct_byte n 1
  have b2 := ct_byte n 2
  have b3 := ct_byte n 3
  have b4 := ct_byte n 4
  have b5 := ct_byte n 5
  have b6 := ct_byte n 6
  have b7 := ct_byte n 7
  have s1 := ct_split n.testBit 8 56
  have s2 := ct_split n.testBit 16 48
  have s3 := ct_split n.testBit 24 40
  have s4 := ct_split n.testBit 32 32
  have s5 := ct_split n.testBit 40 24
  have s6 := ct_split n.testBit 48 16
  have s7 := ct_split n.testBit 56 8
  have t1 := ct_split n.testBit 8 8
  have t2 := ct_split n.testBit 16 8
  have t3 := ct_split n.testBit 24 8
  have t4 := ct_split n.testBit 32 8
  have t5 := ct_split n.testBit 40 8
  have t6 := ct_split n.testBit 48 8
  simp only [Nat.mul_zero, Nat.zero_add, Nat.pow_zero, Nat.div_one, Nat.reduceMul, Nat.reducePow, Nat.reduceAdd] at *
  have b0' : ct n.testBit 8 = ct (n % 256).testBit 8 := b0
  omega
theorem un_sub {x y : Int64} (h : y.toBitVec.toNat ≤ x.toBitVec.toNat) : (x - y).toBitVec.toNat = x.toBitVec.toNat - y.toBitVec.toNat := by
  rw [Int64.toBitVec_sub, BitVec.toNat_sub_of_le (by rw [BitVec.le_def]; exact h)]
theorem un_add {x y : Int64} (h : x.toBitVec.toNat + y.toBitVec.toNat < 18446744073709551616) : (x + y).toBitVec.toNat = x.toBitVec.toNat + y.toBitVec.toNat := by
  rw [Int64.toBitVec_add, BitVec.toNat_add, Nat.mod_eq_of_lt (by omega)]
theorem un_and (x y : Int64) : (x &&& y).toBitVec.toNat = x.toBitVec.toNat &&& y.toBitVec.toNat := by rw [Int64.toBitVec_and, BitVec.toNat_and]
theorem un_ushr {n : Nat} (hn : n < 64) (x : Int64) : ((x.toUInt64 >>> ((nI n).toInt64.toUInt64 &&& Int64.toUInt64 63)).toInt64).toBitVec.toNat = x.toBitVec.toNat / 2 ^ n := by
  show (x.toUInt64 >>> ((nI n).toInt64.toUInt64 &&& Int64.toUInt64 63)).toBitVec.toNat = _
  rw [UInt64.toBitVec_shiftRight]
  show (x.toUInt64.toBitVec >>> (((nI n).toInt64.toUInt64 &&& Int64.toUInt64 63).toBitVec % 64).toNat).toNat = _
  rw [su64 n hn, BitVec.toNat_ushiftRight, Nat.shiftRight_eq_div_pow]
  rfl
theorem bval_lt : ∀ (l : List Nat), (∀ a ∈ l, a ≤ 8) → l.length = 8 → bval l < 2 ^ 60 := by
  intro l h hl
  match l, hl with
  | [a0, a1, a2, a3, a4, a5, a6, a7], _ =>
    have h0 := h a0 (by simp)
    have h1 := h a1 (by simp)
    have h2 := h a2 (by simp)
    have h3 := h a3 (by simp)
    have h4 := h a4 (by simp)
    have h5 := h a5 (by simp)
    have h6 := h a6 (by simp)
    have h7 := h a7 (by simp)
    unfold bval bval bval bval bval bval bval bval bval
    omega
theorem bval_68 : ∀ (l : List Nat), (∀ a ∈ l, a ≤ 68) → l.length = 8 → bval l < 2 ^ 63 := by
  intro l h hl
  match l, hl with
  | [a0, a1, a2, a3, a4, a5, a6, a7], _ =>
    have h0 := h a0 (by simp)
    have h1 := h a1 (by simp)
    have h2 := h a2 (by simp)
    have h3 := h a3 (by simp)
    have h4 := h a4 (by simp)
    have h5 := h a5 (by simp)
    have h6 := h a6 (by simp)
    have h7 := h a7 (by simp)
    unfold bval bval bval bval bval bval bval bval bval
    omega
theorem bsum {a0 a1 a2 a3 a4 a5 a6 a7 : Nat} (h0 : a0 ≤ 8) (h1 : a1 ≤ 8) (h2 : a2 ≤ 8) (h3 : a3 ≤ 8) (h4 : a4 ≤ 8) (h5 : a5 ≤ 8) (h6 : a6 ≤ 8) (h7 : a7 ≤ 8) {n m k : Nat} (hn : n = bval [a0, a1, a2, a3, a4, a5, a6, a7]) (hm : m = n + n / 256) (hk : k = m + m / 65536) : (k + k / 4294967296) % 128 = a0 + a1 + a2 + a3 + a4 + a5 + a6 + a7 := by
  have e1 : m = bval [a0 + a1, a1 + a2, a2 + a3, a3 + a4, a4 + a5, a5 + a6, a6 + a7, a7] := by
    rw [hm, hn]
    unfold bval bval bval bval bval bval bval bval bval
    omega
  have e2 : k = bval [a0 + a1 + a2 + a3, a1 + a2 + a3 + a4, a2 + a3 + a4 + a5, a3 + a4 + a5 + a6, a4 + a5 + a6 + a7, a5 + a6 + a7, a6 + a7, a7] := by
    rw [hk, e1]
    unfold bval bval bval bval bval bval bval bval bval
    omega
  have e3 : k / 4294967296 = bval [a4 + a5 + a6 + a7, a5 + a6 + a7, a6 + a7, a7] := by
    rw [e2]
    unfold bval bval bval bval bval bval bval bval bval
    omega
  have e4 : k = (a0 + a1 + a2 + a3) + 256 * bval [a1 + a2 + a3 + a4, a2 + a3 + a4 + a5, a3 + a4 + a5 + a6, a4 + a5 + a6 + a7, a5 + a6 + a7, a6 + a7, a7] := e2
  have e5 : k / 4294967296 = (a4 + a5 + a6 + a7) + 256 * bval [a5 + a6 + a7, a6 + a7, a7] := e3
  rw [e5]
  generalize bval [a5 + a6 + a7, a6 + a7, a7] = Y
  generalize bval [a1 + a2 + a3 + a4, a2 + a3 + a4 + a5, a3 + a4 + a5 + a6, a4 + a5 + a6 + a7, a5 + a6 + a7, a6 + a7, a7] = X at e4
  clear e2 e3 e5 e1 hk hm hn
  omega
theorem bc64 (x : Int64) : fJ13_bitCount_95d88 x = nI (ct (tb x) 64) := by
  unfold fJ13_bitCount_95d88 lt_
  dsimp only
  have hx : x.toBitVec.toNat < 18446744073709551616 := x.toBitVec.isLt
  generalize hu : x.toBitVec.toNat = u at hx
  have hall : ∀ a ∈ byt8 u, a < 256 := by
    intro a ha
    unfold byt8 at ha
    simp only [List.mem_cons, List.not_mem_nil, or_false] at ha
    rcases ha with h | h | h | h | h | h | h | h <;> (rw [h]; exact Nat.mod_lt _ (by decide))
  have hv := byt8_val hx
  -- step one
  have s1 := bstep1 (byt8 u) hall
  rw [hv] at s1
  generalize h1 : x - (((x.toUInt64 >>> ((1 : Int32).toInt64.toUInt64 &&& Int64.toUInt64 63)).toInt64) &&& (6148914691236517205 : Int64)) = x1
  have u1 : x1.toBitVec.toNat = bval ((byt8 u).map bs1) := by
    have e : (((x.toUInt64 >>> ((1 : Int32).toInt64.toUInt64 &&& Int64.toUInt64 63)).toInt64) &&& (6148914691236517205 : Int64)).toBitVec.toNat = (u / 2) &&& brep 0x55 (byt8 u).length := by
      rw [un_and, show (1 : Int32) = nI 1 from rfl, un_ushr (by decide), hu]
      rfl
    rw [← h1, un_sub (by rw [e, hu]; exact s1.2), e, hu]
    exact s1.1
  generalize h2 : (x1 &&& (3689348814741910323 : Int64)) + (((x1.toUInt64 >>> ((2 : Int32).toInt64.toUInt64 &&& Int64.toUInt64 63)).toInt64) &&& (3689348814741910323 : Int64)) = x2
  have hall1 : ∀ a ∈ (byt8 u).map bs1, a < 256 := by
    intro a ha
    obtain ⟨c, c1, rfl⟩ := List.mem_map.mp ha
    exact (bs_c c (hall c c1)).1
  have hall2 : ∀ a ∈ ((byt8 u).map bs1).map bs2, a ≤ 68 ∧ a % 16 ≤ 4 := by
    intro a ha
    obtain ⟨d, d1, rfl⟩ := List.mem_map.mp ha
    obtain ⟨c, c1, rfl⟩ := List.mem_map.mp d1
    exact ⟨(bs_c c (hall c c1)).2.2.1, (bs_c c (hall c c1)).2.2.2.1⟩
  have s2 := bstep2 _ hall1
  have lt2 : bval (((byt8 u).map bs1).map bs2) < 2 ^ 63 := bval_68 _ (fun a ha => (hall2 a ha).1) rfl
  have u2 : x2.toBitVec.toNat = bval (((byt8 u).map bs1).map bs2) := by
    have e1 : (x1 &&& (3689348814741910323 : Int64)).toBitVec.toNat = bval ((byt8 u).map bs1) &&& brep 0x33 ((byt8 u).map bs1).length := by rw [un_and, u1]; rfl
    have e2 : (((x1.toUInt64 >>> ((2 : Int32).toInt64.toUInt64 &&& Int64.toUInt64 63)).toInt64) &&& (3689348814741910323 : Int64)).toBitVec.toNat = (bval ((byt8 u).map bs1) / 4) &&& brep 0x33 ((byt8 u).map bs1).length := by
      rw [un_and, show (2 : Int32) = nI 2 from rfl, un_ushr (by decide), u1]
      rfl
    rw [← h2, un_add (by rw [e1, e2, s2]; omega), e1, e2, s2]
  generalize h3 : (x2 + ((x2.toUInt64 >>> ((4 : Int32).toInt64.toUInt64 &&& Int64.toUInt64 63)).toInt64)) &&& (1085102592571150095 : Int64) = x3
  have s3 := bstep3 _ hall2
  have u3 : x3.toBitVec.toNat = bval ((((byt8 u).map bs1).map bs2).map bs3) := by
    have e2 : ((x2.toUInt64 >>> ((4 : Int32).toInt64.toUInt64 &&& Int64.toUInt64 63)).toInt64).toBitVec.toNat = bval (((byt8 u).map bs1).map bs2) / 16 := by
      rw [show (4 : Int32) = nI 4 from rfl, un_ushr (by decide), u2]
    rw [← h3, un_and, un_add (by rw [e2, u2]; omega), e2, u2, ← s3]
    rfl
  generalize hl : (((byt8 u).map bs1).map bs2).map bs3 = l at u3
  have hle : ∀ a ∈ l, a ≤ 8 := by
    intro a ha
    rw [← hl] at ha
    obtain ⟨d, d1, rfl⟩ := List.mem_map.mp ha
    obtain ⟨e, e1, rfl⟩ := List.mem_map.mp d1
    obtain ⟨c, c1, rfl⟩ := List.mem_map.mp e1
    exact (bs_c c (hall c c1)).2.2.2.2.2.2
  have lt3 : bval l < 2 ^ 60 := bval_lt l hle (by rw [← hl]; rfl)
  generalize h4 : x3 + ((x3.toUInt64 >>> ((8 : Int32).toInt64.toUInt64 &&& Int64.toUInt64 63)).toInt64) = x4
  have u4 : x4.toBitVec.toNat = bval l + bval l / 256 := by
    have e2 : ((x3.toUInt64 >>> ((8 : Int32).toInt64.toUInt64 &&& Int64.toUInt64 63)).toInt64).toBitVec.toNat = bval l / 256 := by
      rw [show (8 : Int32) = nI 8 from rfl, un_ushr (by decide), u3]
    rw [← h4, un_add (by rw [e2, u3]; omega), e2, u3]
  generalize hm : bval l + bval l / 256 = m at u4
  generalize h5 : x4 + ((x4.toUInt64 >>> ((16 : Int32).toInt64.toUInt64 &&& Int64.toUInt64 63)).toInt64) = x5
  have u5 : x5.toBitVec.toNat = m + m / 65536 := by
    have e2 : ((x4.toUInt64 >>> ((16 : Int32).toInt64.toUInt64 &&& Int64.toUInt64 63)).toInt64).toBitVec.toNat = m / 65536 := by
      rw [show (16 : Int32) = nI 16 from rfl, un_ushr (by decide), u4]
    rw [← h5, un_add (by rw [e2, u4]; omega), e2, u4]
  generalize hk : m + m / 65536 = k at u5
  generalize h6 : x5 + ((x5.toUInt64 >>> ((32 : Int32).toInt64.toUInt64 &&& Int64.toUInt64 63)).toInt64) = x6
  have u6 : x6.toBitVec.toNat = k + k / 4294967296 := by
    have e2 : ((x5.toUInt64 >>> ((32 : Int32).toInt64.toUInt64 &&& Int64.toUInt64 63)).toInt64).toBitVec.toNat = k / 4294967296 := by
      rw [show (32 : Int32) = nI 32 from rfl, un_ushr (by decide), u5]
    rw [← h6, un_add (by rw [e2, u5]; omega), e2, u5]
  have hlow : x6.toInt32 &&& (127 : Int32) = nI (x6.toBitVec.toNat % 128) := by
    apply Int32.toBitVec_inj.mp
    apply BitVec.eq_of_toNat_eq
    rw [Int32.toBitVec_and, BitVec.toNat_and]
    have e : x6.toInt32.toBitVec.toNat = x6.toBitVec.toNat % 4294967296 := by
      rw [Int64.toBitVec_toInt32, BitVec.signExtend_eq_setWidth_of_le _ (by decide)]
      exact BitVec.toNat_setWidth _ _
    rw [e]
    show x6.toBitVec.toNat % 4294967296 &&& (2 ^ 7 - 1) = (x6.toBitVec.toNat % 128) % 4294967296
    rw [Nat.and_two_pow_sub_one_eq_mod]
    omega
  rw [hlow, u6]
  congr 1
  have hct : ct (tb x) 64 = ct u.testBit 64 := by
    apply ct_cong
    intro i _
    unfold tb
    rw [← hu, BitVec.testBit_toNat]
  rw [hct, ct_bytes u]
  have hl2 : l = [ct (u % 256).testBit 8, ct (u / 256 % 256).testBit 8, ct (u / 65536 % 256).testBit 8, ct (u / 16777216 % 256).testBit 8, ct (u / 4294967296 % 256).testBit 8, ct (u / 1099511627776 % 256).testBit 8, ct (u / 281474976710656 % 256).testBit 8, ct (u / 72057594037927936 % 256).testBit 8] := by
    rw [← hl]
    unfold byt8
    simp only [List.map_cons, List.map_nil]
    rw [(bs_c _ (Nat.mod_lt u (by decide))).2.2.2.2.2.1, (bs_c _ (Nat.mod_lt (u / 256) (by decide))).2.2.2.2.2.1, (bs_c _ (Nat.mod_lt (u / 65536) (by decide))).2.2.2.2.2.1, (bs_c _ (Nat.mod_lt (u / 16777216) (by decide))).2.2.2.2.2.1, (bs_c _ (Nat.mod_lt (u / 4294967296) (by decide))).2.2.2.2.2.1, (bs_c _ (Nat.mod_lt (u / 1099511627776) (by decide))).2.2.2.2.2.1, (bs_c _ (Nat.mod_lt (u / 281474976710656) (by decide))).2.2.2.2.2.1, (bs_c _ (Nat.mod_lt (u / 72057594037927936) (by decide))).2.2.2.2.2.1]
  have hb := bsum (ct_le (u % 256).testBit 8) (ct_le (u / 256 % 256).testBit 8) (ct_le (u / 65536 % 256).testBit 8) (ct_le (u / 16777216 % 256).testBit 8) (ct_le (u / 4294967296 % 256).testBit 8) (ct_le (u / 1099511627776 % 256).testBit 8) (ct_le (u / 281474976710656 % 256).testBit 8) (ct_le (u / 72057594037927936 % 256).testBit 8) (n := bval l) (congrArg bval hl2) hm.symm hk.symm
  rw [hb]
  omega
