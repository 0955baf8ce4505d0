/-! ===== (B) texts: tokens ===== -/
def bx (i : Nat) : Int32 := zI ((i : Int) - 128)
def byt (x : Int32) : Prop := -128 ≤ x.toInt ∧ x.toInt < 128
theorem byt_bx {x : Int32} (h : byt x) : ∃ i, i < 256 ∧ x = bx i := by
  refine ⟨(x.toInt + 128).toNat, by unfold byt at h; omega, ?_⟩
  apply i_ext
  unfold bx byt at *
  rw [zI_toInt (by omega) (by omega)]
  omega
noncomputable def kd (x : Int32) : Int32 := fX8_kindOf x
/-- what the reference sees of a byte -/
def rb_ (x : Int32) : Int32 := x &&& 255
theorem kd_all : ∀ i, i < 256 → (fX11_isSmall (rb_ (bx i)) = b1 (decide (fX8_kindOf (bx i) = 1))) ∧ (fX11_isDigit (rb_ (bx i)) = b1 (decide (fX8_kindOf (bx i) = 2))) ∧ ((rb_ (bx i) = 59 ∨ rb_ (bx i) = 60 ∨ rb_ (bx i) = 62 ∨ rb_ (bx i) = 61) ↔ fX8_kindOf (bx i) = 3) ∧ ((rb_ (bx i) = 32 ∨ rb_ (bx i) = 10) ↔ fX8_kindOf (bx i) = 4) ∧ (fX8_kindOf (bx i) = 1 ∨ fX8_kindOf (bx i) = 2 ∨ fX8_kindOf (bx i) = 3 ∨ fX8_kindOf (bx i) = 4 ∨ fX8_kindOf (bx i) = 5) ∧ ¬ rb_ (bx i) = -1 ∧ (¬ fX8_kindOf (bx i) = 5 → rb_ (bx i) = bx i) ∧ (fX8_kindOf (bx i) = 1 → 97 ≤ (bx i).toInt ∧ (bx i).toInt ≤ 122) ∧ (fX8_kindOf (bx i) = 2 → 48 ≤ (bx i).toInt ∧ (bx i).toInt ≤ 57) := by
  unfold rb_ fX8_kindOf fX8_kindOf_J14 fX8_kindOf_J28 fX11_isSmall fX11_isDigit
  decide +kernel
theorem kd_facts {x : Int32} (h : byt x) : (fX11_isSmall (rb_ x) = b1 (decide (kd x = 1))) ∧ (fX11_isDigit (rb_ x) = b1 (decide (kd x = 2))) ∧ ((rb_ x = 59 ∨ rb_ x = 60 ∨ rb_ x = 62 ∨ rb_ x = 61) ↔ kd x = 3) ∧ ((rb_ x = 32 ∨ rb_ x = 10) ↔ kd x = 4) ∧ (kd x = 1 ∨ kd x = 2 ∨ kd x = 3 ∨ kd x = 4 ∨ kd x = 5) ∧ ¬ rb_ x = -1 ∧ (¬ kd x = 5 → rb_ x = x) ∧ (kd x = 1 → 97 ≤ x.toInt ∧ x.toInt ≤ 122) ∧ (kd x = 2 → 48 ≤ x.toInt ∧ x.toInt ≤ 57) := by
  obtain ⟨i, hi, rfl⟩ := byt_bx h
  exact kd_all i hi
/-- the text on both sides -/
def TX (t : Nat → Int32) (N : Nat) (tk M : Rc) : Prop := ga tk 0 = t ∧ gi tk 3 = nI N ∧ gi M 11 = nI N ∧ N ≤ 900 ∧ (∀ k, k < N → ga M 9 k = t k) ∧ (∀ k, byt (t k)) ∧ KWD tk
/-- what reading ahead leaves as it was -/
def FC (tk tk' : Rc) : Prop := ga tk' = ga tk ∧ gb tk' = gb tk ∧ ∀ j, (j < 4 ∨ 9 < j) → gi tk' j = gi tk j
def FA (M M' : Rc) : Prop := M'.2 = M.2 ∧ ∀ j, ¬ (12 ≤ j ∧ j ≤ 15) → gi M' j = gi M j
theorem FC_refl (tk : Rc) : FC tk tk := ⟨rfl, rfl, fun _ _ => rfl⟩
theorem FC_trans {A B C : Rc} (h : FC A B) (k : FC B C) : FC A C := ⟨k.1.trans h.1, k.2.1.trans h.2.1, fun j hj => (k.2.2 j hj).trans (h.2.2 j hj)⟩
theorem FA_refl (M : Rc) : FA M M := ⟨rfl, fun _ _ => rfl⟩
theorem FA_trans {A B C : Rc} (h : FA A B) (k : FA B C) : FA A C := ⟨k.1.trans h.1, fun j hj => (k.2 j hj).trans (h.2 j hj)⟩
theorem FA_si (M : Rc) {k : Nat} (hk : 12 ≤ k ∧ k ≤ 15) (v : Int32) : FA M (si M k v) := ⟨rfl, fun j hj => by rw [gi_si, if_neg (fun z => hj (by omega))]⟩
theorem FC_si (M : Rc) {k : Nat} (hk : 4 ≤ k ∧ k ≤ 9) (v : Int32) : FC M (si M k v) := ⟨rfl, rfl, fun j hj => by rw [gi_si, if_neg (by omega)]⟩
theorem FC_sl (M : Rc) (k : Nat) (v : Int64) : FC M (sl M k v) := ⟨rfl, rfl, fun j hj => rfl⟩
theorem FA_ga {M M' : Rc} (h : FA M M') (k : Nat) : ga M' k = ga M k := by unfold ga; rw [h.1]
theorem FA_gb {M M' : Rc} (h : FA M M') (k : Nat) : gb M' k = gb M k := by unfold gb; rw [h.1]
theorem FA_gl {M M' : Rc} (h : FA M M') (k : Nat) : gl M' k = gl M k := by unfold gl; rw [h.1]
theorem TX_frame {t : Nat → Int32} {N : Nat} {tk M tk' M' : Rc} (h : TX t N tk M) (hc : FC tk tk') (ha : FA M M') : TX t N tk' M' := by
  obtain ⟨h1, h2, h3, h4, h5, h6, h7⟩ := h
  refine ⟨by rw [hc.1]; exact h1, (hc.2.2 3 (by omega)).trans h2, (ha.2 11 (by omega)).trans h3, h4, fun k hk => by rw [FA_ga ha]; exact h5 k hk, h6, fun k hk => by rw [hc.2.1]; exact h7 k hk⟩
theorem byteAt_in {t : Nat → Int32} {N : Nat} {tk M : Rc} (h : TX t N tk M) {k : Nat} (hk : k < N) : fX11_byteAt (nI k) M = some (rb_ (t k)) := by
  obtain ⟨h1, h2, h3, h4, h5, h6, h7⟩ := h
  unfold fX11_byteAt
  rw [h3, if_neg (nI_ge hk (by omega)), gd_pos (inbn (by omega) (by decide)), nI_clamp (by omega), h5 k hk]
  rfl
theorem byteAt_out {t : Nat → Int32} {N : Nat} {tk M : Rc} (h : TX t N tk M) : fX11_byteAt (nI N) M = some (-1) := by
  obtain ⟨h1, h2, h3, h4, h5, h6, h7⟩ := h
  unfold fX11_byteAt
  rw [h3, if_pos (nI_le (Nat.le_refl _) (by omega))]
/-- letters -/
def lt1 (t : Nat → Int32) (k : Nat) : Nat := (t k).toInt.toNat - 96
def wl (t : Nat → Int32) (a : Nat) : Nat → List Nat
  | 0 => []
  | n + 1 => wl t a n ++ [lt1 t (a + n)]
theorem wl_succ (t : Nat → Int32) (a n : Nat) : wl t a (n + 1) = wl t a n ++ [lt1 t (a + n)] := rfl
theorem wl_len (t : Nat → Int32) (a : Nat) : ∀ n, (wl t a n).length = n := by
  intro n
  induction n with
  | zero => rfl
  | succ n ih => rw [wl_succ, List.length_append, ih]; rfl
/-- values of digits, the latest first -/
def vl (B : Nat) (g : Nat → Nat) : List Nat → Nat
  | [] => 0
  | c :: l => g c + B * vl B g l
theorem fold_vl (B : Nat) (g : Nat → Nat) (w : List Nat) : w.foldl (fun a c => a * B + g c) 0 = vl B g w.reverse := by
  have key : ∀ l : List Nat, l.foldr (fun c a => a * B + g c) 0 = vl B g l := by
    intro l
    induction l with
    | nil => rfl
    | cons c l ih => rw [List.foldr_cons, ih]; show _ = g c + B * vl B g l; rw [Nat.mul_comm, Nat.add_comm]
  rw [← key, List.foldr_reverse]
theorem vl_lt {B : Nat} {g : Nat → Nat} (hB : 0 < B) : ∀ {l : List Nat}, (∀ c ∈ l, g c < B) → vl B g l < B ^ l.length := by
  intro l
  induction l with
  | nil => intro _; exact Nat.one_pos
  | cons c l ih =>
    intro h
    have h1 := ih (fun x hx => h x (List.mem_cons_of_mem _ hx))
    have h2 := h c List.mem_cons_self
    show g c + B * vl B g l < B ^ (l.length + 1)
    rw [Nat.pow_succ, Nat.mul_comm (B ^ l.length) B]
    have h3 : B * (vl B g l + 1) ≤ B * B ^ l.length := Nat.mul_le_mul_left B h1
    rw [Nat.mul_add, Nat.mul_one] at h3
    omega
theorem vl_inj {B : Nat} {g : Nat → Nat} : ∀ {l m : List Nat}, (∀ c ∈ l, 0 < g c ∧ g c < B) → (∀ c ∈ m, 0 < g c ∧ g c < B) → (∀ c ∈ l, ∀ d ∈ m, g c = g d → c = d) → vl B g l = vl B g m → l = m := by
  intro l
  induction l with
  | nil =>
    intro m _ hm _ h
    cases m with
    | nil => rfl
    | cons c m =>
      have := hm c List.mem_cons_self
      have h' : 0 = g c + B * vl B g m := h
      omega
  | cons c l ih =>
    intro m hl hm hg h
    have h1 := hl c List.mem_cons_self
    cases m with
    | nil => have h' : g c + B * vl B g l = 0 := h; omega
    | cons d m =>
      have h2 := hm d List.mem_cons_self
      have h' : g c + B * vl B g l = g d + B * vl B g m := h
      have e1 : (g c + B * vl B g l) % B = g c := by rw [Nat.add_mul_mod_self_left, Nat.mod_eq_of_lt h1.2]
      have e2 : (g d + B * vl B g m) % B = g d := by rw [Nat.add_mul_mod_self_left, Nat.mod_eq_of_lt h2.2]
      have e3 : g c = g d := by rw [← e1, ← e2, h']
      have e4 : vl B g l = vl B g m := by
        rw [e3] at h'
        have : B * vl B g l = B * vl B g m := by omega
        exact Nat.eq_of_mul_eq_mul_left (by omega) this
      rw [hg c List.mem_cons_self d List.mem_cons_self e3, ih (fun x hx => hl x (List.mem_cons_of_mem _ hx)) (fun x hx => hm x (List.mem_cons_of_mem _ hx)) (fun x hx y hy => hg x (List.mem_cons_of_mem _ hx) y (List.mem_cons_of_mem _ hy)) e4]
def n5 (w : List Nat) : Nat := w.foldl (fun a c => a * 32 + c) 0
def n8 (w : List Nat) : Nat := w.foldl (fun a c => a * 256 + (c + 96)) 0
theorem lN_inj64 {a c : Nat} (ha : a < 2 ^ 64) (hc : c < 2 ^ 64) (h : lN a = lN c) : a = c := by
  have h1 := congrArg (fun x => x.toBitVec.toNat) h
  have h2 : (BitVec.ofNat 64 a).toNat = (BitVec.ofNat 64 c).toNat := h1
  rw [BitVec.toNat_ofNat, BitVec.toNat_ofNat, Nat.mod_eq_of_lt ha, Nat.mod_eq_of_lt hc] at h2
  exact h2
def okl (w : List Nat) : Prop := w.length ≤ 8 ∧ ∀ c ∈ w, 1 ≤ c ∧ c ≤ 26
theorem n5_lt {w : List Nat} (h : okl w) : n5 w < 2 ^ 40 := by
  unfold n5
  rw [fold_vl 32 (fun c => c)]
  have h1 := vl_lt (B := 32) (g := fun c => c) (by decide) (l := w.reverse) (fun c hc => by have := h.2 c (List.mem_reverse.mp hc); omega)
  rw [List.length_reverse] at h1
  have h2 : 32 ^ w.length ≤ 32 ^ 8 := Nat.pow_le_pow_right (by decide) h.1
  exact Nat.lt_of_lt_of_le h1 h2
theorem n8_lt {w : List Nat} (h : okl w) : n8 w < 2 ^ 64 := by
  unfold n8
  rw [fold_vl 256 (fun c => c + 96)]
  have h1 := vl_lt (B := 256) (g := fun c => c + 96) (by decide) (l := w.reverse) (fun c hc => by have := h.2 c (List.mem_reverse.mp hc); omega)
  rw [List.length_reverse] at h1
  have h2 : 256 ^ w.length ≤ 256 ^ 8 := Nat.pow_le_pow_right (by decide) h.1
  exact Nat.lt_of_lt_of_le h1 h2
theorem pk5_inj {w u : List Nat} (hw : okl w) (hu : okl u) : pk5 w = pk5 u ↔ w = u := by
  constructor
  · intro h
    have e : n5 w = n5 u := lN_inj64 (Nat.lt_trans (n5_lt hw) (by decide)) (Nat.lt_trans (n5_lt hu) (by decide)) h
    unfold n5 at e
    rw [fold_vl 32 (fun c => c), fold_vl 32 (fun c => c)] at e
    have := vl_inj (fun c hc => by have := hw.2 c (List.mem_reverse.mp hc); omega) (fun c hc => by have := hu.2 c (List.mem_reverse.mp hc); omega) (fun _ _ _ _ q => q) e
    exact List.reverse_inj.mp this
  · intro h; rw [h]
theorem pk8_inj {w u : List Nat} (hw : okl w) (hu : okl u) : pk8 w = pk8 u ↔ w = u := by
  constructor
  · intro h
    have e : n8 w = n8 u := lN_inj64 (n8_lt hw) (n8_lt hu) h
    unfold n8 at e
    rw [fold_vl 256 (fun c => c + 96), fold_vl 256 (fun c => c + 96)] at e
    have := vl_inj (fun c hc => by have := hw.2 c (List.mem_reverse.mp hc); omega) (fun c hc => by have := hu.2 c (List.mem_reverse.mp hc); omega) (fun a _ b _ q => by omega) e
    exact List.reverse_inj.mp this
  · intro h; rw [h]
theorem pk5_m1 {w : List Nat} (hw : okl w) : ¬ pk5 w = -1 := lN_m1 (Nat.lt_trans (n5_lt hw) (by decide))
theorem or_add (n : Nat) {c k B : Nat} (hB : B = 2 ^ k) (hk : k < 64) (hc : c < B) : (lN n <<< ((nI k).toInt64 &&& 63)) ||| lN c = lN (n * B + c) := by
  apply Int64.toBitVec_inj.mp
  apply BitVec.eq_of_toNat_eq
  rw [Int64.toBitVec_or, Int64.toBitVec_shiftLeft, BitVec.toNat_or]
  show ((BitVec.ofNat 64 n) <<< (((nI k).toInt64 &&& 63).toBitVec.smod 64).toNat).toNat ||| (BitVec.ofNat 64 c).toNat = (BitVec.ofNat 64 (n * B + c)).toNat
  rw [sl64 k hk, BitVec.toNat_shiftLeft, BitVec.toNat_ofNat, BitVec.toNat_ofNat, BitVec.toNat_ofNat, Nat.shiftLeft_eq, ← hB]
  obtain ⟨C, hC⟩ : ∃ C, 2 ^ 64 = B * C := ⟨2 ^ (64 - k), by rw [hB, ← Nat.pow_add, show k + (64 - k) = 64 by omega]⟩
  have hB0 : 0 < B := by rw [hB]; exact Nat.pow_pos (by decide)
  have hC0 : 0 < C := by
    rcases Nat.eq_zero_or_pos C with z | z
    · rw [z, Nat.mul_zero] at hC; exact absurd hC (by decide)
    · exact z
  have hcl : c < 2 ^ 64 := by rw [hC]; exact Nat.lt_of_lt_of_le hc (Nat.le_mul_of_pos_right B hC0)
  rw [Nat.mod_eq_of_lt hcl]
  have e1 : n % 2 ^ 64 * B % 2 ^ 64 = B * (n % C) := by
    rw [Nat.mul_comm, hC, Nat.mul_mod_mul_left]
    congr 1
    exact Nat.mod_mul_left_mod n B C
  have e2 : (n * B + c) % 2 ^ 64 = B * (n % C) + c := by
    have hd := Nat.div_add_mod n C
    have hm := Nat.mod_lt n hC0
    have : n * B + c = (B * (n % C) + c) + (B * C) * (n / C) := by
      have : n * B = B * (C * (n / C) + n % C) := by rw [hd, Nat.mul_comm]
      rw [this, Nat.mul_add, Nat.mul_assoc]
      omega
    rw [this, hC, Nat.add_mul_mod_self_left]
    apply Nat.mod_eq_of_lt
    have h3 : B * (n % C + 1) ≤ B * C := Nat.mul_le_mul_left B hm
    rw [Nat.mul_add, Nat.mul_one] at h3
    omega
  rw [e1, e2, hB]
  exact (Nat.two_pow_add_eq_or_of_lt (by rw [← hB]; exact hc) (n % C)).symm
