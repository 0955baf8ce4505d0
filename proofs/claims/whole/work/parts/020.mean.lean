/-! ===== what each method means: printed out of its bytecode ===== -/
/-- the words, as bytes -/
def by0 : List Int32 := [102, 97, 114, 109, 101, 114, 32, 97, 104, 101, 97, 100, 32, 98, 101, 104, 105, 110, 100, 32, 102, 97, 105, 108, 115, 32, 102, 97, 108, 115, 101, 32, 101, 108, 98, 111, 119, 32, 99, 117, 114, 101, 100, 32, 100, 105, 115, 108, 105, 107, 101, 115, 32, 119, 101, 97, 116, 104, 101, 114, 32, 118, 111, 116, 101, 32, 109, 111, 115, 116, 32, 119, 101, 105, 103, 104, 116, 115, 32, 97, 110, 121, 32, 97, 108, 108, 32, 114, 97, 105, 110, 32, 100, 114, 121, 32, 104, 97, 105, 108, 32, 102, 101, 101, 108, 32, 108, 105, 101, 32, 111, 110, 32, 99, 117, 114, 101, 32, 98, 114, 97, 110, 100, 121, 32, 108, 101, 97, 114, 110, 32, 119, 104, 101, 110, 32, 115, 97, 121, 115, 32, 116, 114, 117, 115, 116, 32, 100, 97, 121, 115, 32, 108, 111, 111, 112, 32, 101, 110, 100, 32, 115, 116, 111, 112, 32]
def by1 : List Int32 := [32, 102, 97, 114, 109, 101, 114, 32, 100, 105, 115, 108, 105, 107, 101, 115, 32, 119, 101, 97, 116, 104, 101, 114, 32, 118, 111, 116, 101, 32, 97, 104, 101, 97, 100, 32, 98, 101, 104, 105, 110, 100, 32, 102, 97, 105, 108, 115, 32, 102, 97, 108, 115, 101, 32, 101, 108, 98, 111, 119, 32, 99, 117, 114, 101, 100, 32, 109, 111, 115, 116, 32, 119, 101, 105, 103, 104, 116, 115, 32, 97, 110, 121, 32, 97, 108, 108, 32, 114, 97, 105, 110, 32, 104, 97, 105, 108, 32, 100, 114, 121, 32, 102, 101, 101, 108, 32, 108, 105, 101, 32, 99, 117, 114, 101, 32, 98, 114, 97, 110, 100, 121, 32, 108, 101, 97, 114, 110, 32, 111, 110, 32, 119, 104, 101, 110, 32, 108, 111, 111, 112, 32, 101, 110, 100, 32, 115, 116, 111, 112, 32, 115, 97, 121, 115, 32, 116, 114, 117, 115, 116, 32, 100, 97, 121, 115, 32]
/-- the char at a place of a row of bytes -/
def chv (byt : List Int32) (i : Int32) : Int32 := ((byt.getD i.toNatClampNeg 0 &&& 255).toUInt32 % 65536).toInt32
/-- nothing -/
def zr : Rc := (fun _ => 0, fun _ => 0, fun _ _ => 0, fun _ _ => 0)
noncomputable def fX0_canAddDay (s0 : Rc) : Int32 :=
if (60 : Int32) ≤ (gi s0 9) then (
(0 : Int32)) else (
(1 : Int32))
noncomputable def fX0_addDay_J27 (p1 : Int32) (t27_0 : Rc) : Rc :=
if p1 = (2 : Int32) then (
lt_ (sl t27_0 11 ((gl t27_0 11) ||| ((1 : Int64) <<< ((gi t27_0 9).toInt64 &&& 63)))) (fun s0_3 =>
lt_ (si s0_3 9 ((gi s0_3 9) + (1 : Int32))) (fun s0_4 =>
s0_4))) else (
lt_ (si t27_0 9 ((gi t27_0 9) + (1 : Int32))) (fun s0_2 =>
s0_2))
noncomputable def fX0_addDay (p1 : Int32) (s0 : Rc) : Rc :=
if (fX0_canAddDay s0) = (0 : Int32) then (
s0) else (
if p1 = (0 : Int32) then (
fX0_addDay_J27 p1 s0) else (
lt_ (sl s0 10 ((gl s0 10) ||| ((1 : Int64) <<< ((gi s0 9).toInt64 &&& 63)))) (fun s0_8 =>
fX0_addDay_J27 p1 s0_8)))
noncomputable def fJ13_bitCount_95d88 (p1 : Int64) : Int32 :=
lt_ (p1 - (((p1.toUInt64 >>> ((1 : Int32).toInt64.toUInt64 &&& Int64.toUInt64 63)).toInt64) &&& (6148914691236517205 : Int64))) (fun x1 =>
lt_ ((x1 &&& (3689348814741910323 : Int64)) + (((x1.toUInt64 >>> ((2 : Int32).toInt64.toUInt64 &&& Int64.toUInt64 63)).toInt64) &&& (3689348814741910323 : Int64))) (fun x2 =>
lt_ ((x2 + ((x2.toUInt64 >>> ((4 : Int32).toInt64.toUInt64 &&& Int64.toUInt64 63)).toInt64)) &&& (1085102592571150095 : Int64)) (fun x3 =>
lt_ (x3 + ((x3.toUInt64 >>> ((8 : Int32).toInt64.toUInt64 &&& Int64.toUInt64 63)).toInt64)) (fun x4 =>
lt_ (x4 + ((x4.toUInt64 >>> ((16 : Int32).toInt64.toUInt64 &&& Int64.toUInt64 63)).toInt64)) (fun x5 =>
lt_ (x5 + ((x5.toUInt64 >>> ((32 : Int32).toInt64.toUInt64 &&& Int64.toUInt64 63)).toInt64)) (fun x6 =>
(x6.toInt32 &&& (127 : Int32))))))))
noncomputable def fX0_allTwinges_L4 (s0 : Rc) (q4 : Int32 × Int32) : Option ((Int32 × Int32) ⊕ Int32) :=
if (gi s0 8) ≤ q4.2 then (
some (.inr q4.1)) else (
gd (inb q4.2 8) (
lt_ (q4.1 + (fJ13_bitCount_95d88 (gb s0 6 q4.2.toNatClampNeg))) (fun x3 =>
some (.inl (x3, (q4.2 + (1 : Int32)))))))
noncomputable def fX0_allTwinges (s0 : Rc) : Option (Int32) :=
(loopF (fX0_allTwinges_L4 s0) ((0 : Int32), (0 : Int32))).bind (fun o4 =>
some o4)
noncomputable def fX0_hasWord (p1 : Int32) (p2 : Int32) (s0 : Rc) : Option (Int32) :=
gd (inb p1 8) (
lt_ (p2 - (ga s0 1 p1.toNatClampNeg)) (fun x2 =>
if x2 < (0 : Int32) then (
some (0 : Int32)) else (
if (gi s0 9) ≤ x2 then (
some (0 : Int32)) else (
if (ga s0 4 p1.toNatClampNeg) ≤ x2 then (
some (0 : Int32)) else (
some (1 : Int32))))))
noncomputable def fX0_feltOn (p1 : Int32) (p2 : Int32) (s0 : Rc) : Option (Int32) :=
gd (inb p1 8) (
some (((((gb s0 6 p1.toNatClampNeg).toUInt64 >>> (p2.toInt64.toUInt64 &&& Int64.toUInt64 63)).toInt64) &&& (1 : Int64)).toInt32))
noncomputable def fX0_believes (p1 : Int32) (p2 : Int32) (s0 : Rc) : Option (Int32) :=
(fX0_hasWord p1 p2 s0).bind (fun r1 =>
if r1 = (0 : Int32) then (
some (0 : Int32)) else (
gd (inb p1 8) (
(fX0_feltOn p1 (p2 - (ga s0 1 p1.toNatClampNeg)) s0).bind (fun r5 =>
if r5 = (1 : Int32) then (
some (1 : Int32)) else (
some (0 : Int32))))))
noncomputable def fX0_believersOf_L4 (p1 : Int32) (s0 : Rc) (q4 : Int32 × Int32) : Option ((Int32 × Int32) ⊕ Int32) :=
if (gi s0 8) ≤ q4.2 then (
some (.inr q4.1)) else (
(fX0_believes q4.2 p1 s0).bind (fun r2 =>
if r2 = (0 : Int32) then (
some (.inl (q4.1, (q4.2 + (1 : Int32))))) else (
lt_ (q4.1 ||| ((1 : Int32) <<< (q4.2 &&& 31))) (fun x5 =>
some (.inl (x5, (q4.2 + (1 : Int32))))))))
noncomputable def fX0_believersOf (p1 : Int32) (s0 : Rc) : Option (Int32) :=
(loopF (fX0_believersOf_L4 p1 s0) ((0 : Int32), (0 : Int32))).bind (fun o4 =>
some o4)
noncomputable def fX0_copyFrom (s0 : Rc) (s1 : Rc) : Option (Rc) :=
lt_ (sb s0 0 (va_cpy (gb s1 0) (gb s0 0) (0 : Int32).toNatClampNeg (0 : Int32).toNatClampNeg (8 : Int32).toNatClampNeg)) (fun s0_1 =>
lt_ (sa s0_1 1 (va_cpy (ga s1 1) (ga s0_1 1) (0 : Int32).toNatClampNeg (0 : Int32).toNatClampNeg (8 : Int32).toNatClampNeg)) (fun s0_2 =>
lt_ (sa s0_2 2 (va_cpy (ga s1 2) (ga s0_2 2) (0 : Int32).toNatClampNeg (0 : Int32).toNatClampNeg (8 : Int32).toNatClampNeg)) (fun s0_3 =>
lt_ (sa s0_3 3 (va_cpy (ga s1 3) (ga s0_3 3) (0 : Int32).toNatClampNeg (0 : Int32).toNatClampNeg (8 : Int32).toNatClampNeg)) (fun s0_4 =>
lt_ (sa s0_4 4 (va_cpy (ga s1 4) (ga s0_4 4) (0 : Int32).toNatClampNeg (0 : Int32).toNatClampNeg (8 : Int32).toNatClampNeg)) (fun s0_5 =>
lt_ (sa s0_5 5 (va_cpy (ga s1 5) (ga s0_5 5) (0 : Int32).toNatClampNeg (0 : Int32).toNatClampNeg (8 : Int32).toNatClampNeg)) (fun s0_6 =>
lt_ (sb s0_6 6 (va_cpy (gb s1 6) (gb s0_6 6) (0 : Int32).toNatClampNeg (0 : Int32).toNatClampNeg (8 : Int32).toNatClampNeg)) (fun s0_7 =>
lt_ (sa s0_7 7 (va_cpy (ga s1 7) (ga s0_7 7) (0 : Int32).toNatClampNeg (0 : Int32).toNatClampNeg (64 : Int32).toNatClampNeg)) (fun s0_8 =>
lt_ (si s0_8 8 (gi s1 8)) (fun s0_9 =>
lt_ (si s0_9 13 (gi s1 13)) (fun s0_10 =>
lt_ (si s0_10 9 (gi s1 9)) (fun s0_11 =>
lt_ (sl s0_11 10 (gl s1 10)) (fun s0_12 =>
lt_ (sl s0_12 11 (gl s1 11)) (fun s0_13 =>
lt_ (si s0_13 12 (gi s1 12)) (fun s0_14 =>
some s0_14))))))))))))))
noncomputable def fX0_hasFarmer (p1 : Int32) (s0 : Rc) : Int32 :=
if p1 < (0 : Int32) then (
(0 : Int32)) else (
if (gi s0 8) ≤ p1 then (
(0 : Int32)) else (
(1 : Int32)))
noncomputable def fX0_cureOn (p1 : Int32) (p2 : Int32) (s0 : Rc) : Option (Rc) :=
if (fX0_hasFarmer p1 s0) = (0 : Int32) then (
some s0) else (
gd (inb p1 8) (
lt_ (sa s0 4 (upd (ga s0 4) p1.toNatClampNeg p2)) (fun s0_4 =>
some s0_4)))
noncomputable def fX10_firstDays (p1 : Int32) : Int64 :=
(((1 : Int64) <<< (p1.toInt64 &&& 63)) - (1 : Int64))
noncomputable def fX0_daysThere (s0 : Rc) : Int64 :=
(fX10_firstDays (gi s0 9))
noncomputable def fX0_dislike (p1 : Int32) (p2 : Int32) (s0 : Rc) : Option (Int32) :=
gd (inb ((p1 * (8 : Int32)) + p2) 64) (
some (ga s0 7 ((p1 * (8 : Int32)) + p2).toNatClampNeg))
noncomputable def fX0_hasElbow (p1 : Int32) (s0 : Rc) : Int32 :=
if ((((gi s0 13).toUInt32 >>> (p1.toUInt32 &&& Int32.toUInt32 31)).toInt32) &&& (1 : Int32)) = (0 : Int32) then (
(0 : Int32)) else (
(1 : Int32))
noncomputable def fX0_likelihood_J57 (p1 : Int32) (s0 : Rc) (q5 : Int64 × Int32) (z57_0 : Int32) : Option ((Int64 × Int32) ⊕ Int64) :=
(fX0_believes q5.2 p1 s0).bind (fun r1 =>
if r1 = (0 : Int32) then (
lt_ (q5.1 * (((16 : Int32) - z57_0).toInt64)) (fun x4 =>
some (.inl (x4, (q5.2 + (1 : Int32)))))) else (
lt_ (q5.1 * z57_0.toInt64) (fun x5 =>
some (.inl (x5, (q5.2 + (1 : Int32)))))))
noncomputable def fX0_likelihood_L5 (p1 : Int32) (p2 : Int32) (s0 : Rc) (q5 : Int64 × Int32) : Option ((Int64 × Int32) ⊕ Int64) :=
if (gi s0 8) ≤ q5.2 then (
some (.inr q5.1)) else (
(fX0_hasWord q5.2 p1 s0).bind (fun r7 =>
if r7 = (0 : Int32) then (
some (.inl (q5.1, (q5.2 + (1 : Int32))))) else (
if (fX0_hasElbow q5.2 s0) = (0 : Int32) then (
if p2 = (0 : Int32) then (
gd (inb q5.2 8) (
fX0_likelihood_J57 p1 s0 q5 (ga s0 3 q5.2.toNatClampNeg))) else (
gd (inb q5.2 8) (
fX0_likelihood_J57 p1 s0 q5 ((16 : Int32) - (ga s0 2 q5.2.toNatClampNeg))))) else (
some (.inl (q5.1, (q5.2 + (1 : Int32))))))))
noncomputable def fX0_likelihood (p1 : Int32) (p2 : Int32) (s0 : Rc) : Option (Int64) :=
(loopF (fX0_likelihood_L5 p1 p2 s0) ((1 : Int64), (0 : Int32))).bind (fun o5 =>
some o5)
noncomputable def fX0_dryShare (p1 : Int32) (p2 : Int32) (s0 : Rc) : Option (Int64) :=
(fX0_likelihood p1 (0 : Int32) s0).bind (fun r1 =>
some ((((16 : Int32) - p2).toInt64) * r1))
noncomputable def fX0_feltWeather (p1 : Int32) (s0 : Rc) : Int64 :=
if (fX0_hasElbow p1 s0) = (0 : Int32) then (
(gl s0 10)) else (
(gl s0 11))
noncomputable def fX10_later (p1 : Int64) (p2 : Int32) : Int64 :=
if (0 : Int32) ≤ p2 then (
(p1 <<< (p2.toInt64 &&& 63))) else (
(p1.toUInt64 >>> ((-p2).toInt64.toUInt64 &&& Int64.toUInt64 63)).toInt64)
noncomputable def fX0_feelingDays (p1 : Int32) (s0 : Rc) : Option (Int64) :=
gd (inb p1 8) (
some (fX10_firstDays (if (ga s0 4 p1.toNatClampNeg) < (gi s0 9) then (ga s0 4 p1.toNatClampNeg) else (gi s0 9))))
noncomputable def fX0_dueDays (p1 : Int32) (s0 : Rc) : Option (Int64) :=
gd (inb p1 8) (
(fX0_feelingDays p1 s0).bind (fun r2 =>
some ((fX10_later (fX0_feltWeather p1 s0) (-(ga s0 1 p1.toNatClampNeg))) &&& r2)))
noncomputable def fX0_empty_L32 (q32 : Int32 × Rc) : Option ((Int32 × Rc) ⊕ Rc) :=
if (64 : Int32) ≤ q32.1 then (
some (.inr q32.2)) else (
gd (inb q32.1 64) (
lt_ (sa q32.2 7 (upd (ga q32.2 7) q32.1.toNatClampNeg (0 : Int32))) (fun s0_9 =>
some (.inl ((q32.1 + (1 : Int32)), s0_9)))))
noncomputable def fX0_empty (s0 : Rc) : Option (Rc) :=
lt_ (si s0 8 (0 : Int32)) (fun s0_1 =>
lt_ (si s0_1 13 (0 : Int32)) (fun s0_2 =>
lt_ (si s0_2 9 (0 : Int32)) (fun s0_3 =>
lt_ (sl s0_3 10 (0 : Int64)) (fun s0_4 =>
lt_ (sl s0_4 11 (0 : Int64)) (fun s0_5 =>
lt_ (si s0_5 12 (0 : Int32)) (fun s0_6 =>
(loopF (fX0_empty_L32) ((0 : Int32), s0_6)).bind (fun o32 =>
some o32)))))))
noncomputable def fX0_farmerNamed_L2 (p1 : Int64) (s0 : Rc) (q2 : Int32) : Option (Int32 ⊕ ((Int32) ⊕ (Unit))) :=
if (gi s0 8) ≤ q2 then (
some (.inr (.inr ()))) else (
gd (inb q2 8) (
if (gb s0 0 q2.toNatClampNeg) = p1 then (
some (.inr (.inl q2))) else (
some (.inl (q2 + (1 : Int32))))))
noncomputable def fX0_farmerNamed (p1 : Int64) (s0 : Rc) : Option (Int32) :=
(loopF (fX0_farmerNamed_L2 p1 s0) (0 : Int32)).bind (fun o2 =>
Sum.elim (fun o2a =>
some o2a) (fun o2b =>
some (-1 : Int32)) o2)
noncomputable def fX2_drawBy16 (s0 : Rc) : Int32 × Rc :=
lt_ (si s0 0 ((((gi s0 0) * (2857 : Int32)) + (11059 : Int32)) - (((gi s0 0) * (2857 : Int32)) + (11059 : Int32)) / (65536 : Int32) * (65536 : Int32))) (fun s0_1 =>
((((gi s0_1 0) / (8 : Int32)) - ((gi s0_1 0) / (8 : Int32)) / (16 : Int32) * (16 : Int32)), s0_1))
noncomputable def fX0_feelBy_J53 (q2 : Int32 × Rc × Rc) (q22 : Int64 × Int32 × Rc) (y53_8 : Int32) (z53_0 : Int32) (t53_1 : Rc) : Option ((Int64 × Int32 × Rc) ⊕ (Int64 × Rc)) :=
if z53_0 = (0 : Int32) then (
gd (inb q2.1 8) (
if (ga q2.2.1 3 q2.1.toNatClampNeg) ≤ y53_8 then (
some (.inl (q22.1, (q22.2.1 + (1 : Int32)), t53_1))) else (
lt_ (q22.1 ||| ((1 : Int64) <<< (q22.2.1.toInt64 &&& 63))) (fun x6 =>
some (.inl (x6, (q22.2.1 + (1 : Int32)), t53_1)))))) else (
gd (inb q2.1 8) (
if y53_8 < (ga q2.2.1 2 q2.1.toNatClampNeg) then (
some (.inl (q22.1, (q22.2.1 + (1 : Int32)), t53_1))) else (
lt_ (q22.1 ||| ((1 : Int64) <<< (q22.2.1.toInt64 &&& 63))) (fun x9 =>
some (.inl (x9, (q22.2.1 + (1 : Int32)), t53_1))))))
noncomputable def fX0_feelBy_L22 (q2 : Int32 × Rc × Rc) (r2 : Int64) (q22 : Int64 × Int32 × Rc) : Option ((Int64 × Int32 × Rc) ⊕ (Int64 × Rc)) :=
if (gi q2.2.1 9) ≤ q22.2.1 then (
some (.inr (q22.1, q22.2.2))) else (
lt_ (fX2_drawBy16 q22.2.2) (fun r11 =>
if (((r2.toUInt64 >>> (q22.2.1.toInt64.toUInt64 &&& Int64.toUInt64 63)).toInt64) &&& (1 : Int64)) = (0 : Int64) then (
fX0_feelBy_J53 q2 q22 r11.1 (0 : Int32) r11.2) else (
fX0_feelBy_J53 q2 q22 r11.1 (1 : Int32) r11.2)))
noncomputable def fX0_feelBy_L2 (q2 : Int32 × Rc × Rc) : Option ((Int32 × Rc × Rc) ⊕ (Rc × Rc)) :=
if (gi q2.2.1 8) ≤ q2.1 then (
some (.inr (q2.2.1, q2.2.2))) else (
(fX0_dueDays q2.1 q2.2.1).bind (fun r2 =>
(loopF (fX0_feelBy_L22 q2 r2) ((0 : Int64), (0 : Int32), q2.2.2)).bind (fun o22 =>
gd (inb q2.1 8) (
lt_ (sb q2.2.1 6 (vp_updL (gb q2.2.1 6) q2.1.toNatClampNeg o22.1)) (fun s0_14 =>
some (.inl ((q2.1 + (1 : Int32)), s0_14, o22.2)))))))
noncomputable def fX0_feelBy (s0 : Rc) (s1 : Rc) : Option (Rc × Rc) :=
(loopF (fX0_feelBy_L2) ((0 : Int32), s0, s1)).bind (fun o2 =>
some (o2.1, o2.2))
noncomputable def fJ6_bitCount_0f7a4 (p1 : Int32) : Int32 :=
lt_ (p1 - (((p1.toUInt32 >>> ((1 : Int32).toUInt32 &&& Int32.toUInt32 31)).toInt32) &&& (1431655765 : Int32))) (fun x1 =>
lt_ ((x1 &&& (858993459 : Int32)) + (((x1.toUInt32 >>> ((2 : Int32).toUInt32 &&& Int32.toUInt32 31)).toInt32) &&& (858993459 : Int32))) (fun x2 =>
lt_ ((x2 + ((x2.toUInt32 >>> ((4 : Int32).toUInt32 &&& Int32.toUInt32 31)).toInt32)) &&& (252645135 : Int32)) (fun x3 =>
lt_ (x3 + ((x3.toUInt32 >>> ((8 : Int32).toUInt32 &&& Int32.toUInt32 31)).toInt32)) (fun x4 =>
lt_ (x4 + ((x4.toUInt32 >>> ((16 : Int32).toUInt32 &&& Int32.toUInt32 31)).toInt32)) (fun x5 =>
(x5 &&& (63 : Int32)))))))
noncomputable def fX0_rainDays (p1 : Int32) (s0 : Rc) : Option (Int64) :=
gd (inb p1 8) (
(fX0_feelingDays p1 s0).bind (fun r2 =>
some ((fX10_later ((gb s0 6 p1.toNatClampNeg) &&& r2) (ga s0 1 p1.toNatClampNeg)) &&& (fX0_daysThere s0))))
noncomputable def fX0_rainDaysOfSet_L5 (p1 : Int32) (s0 : Rc) (q5 : Int64 × Int32) : Option ((Int64 × Int32) ⊕ Int64) :=
if (gi s0 8) ≤ q5.2 then (
some (.inr q5.1)) else (
if (((p1.toUInt32 >>> (q5.2.toUInt32 &&& Int32.toUInt32 31)).toInt32) &&& (1 : Int32)) = (0 : Int32) then (
some (.inl (q5.1, (q5.2 + (1 : Int32))))) else (
(fX0_rainDays q5.2 s0).bind (fun r3 =>
lt_ (q5.1 ||| r3) (fun x4 =>
some (.inl (x4, (q5.2 + (1 : Int32))))))))
noncomputable def fX0_rainDaysOfSet (p1 : Int32) (s0 : Rc) : Option (Int64) :=
(loopF (fX0_rainDaysOfSet_L5 p1 s0) ((0 : Int64), (0 : Int32))).bind (fun o5 =>
some o5)
noncomputable def fX0_isEnough (p1 : Int32) (p2 : Int32) (s0 : Rc) : Option (Int32) :=
(fX0_rainDaysOfSet p1 s0).bind (fun r1 =>
if ((gl s0 10) &&& (r1 ^^^ (-1 : Int64))) = (0 : Int64) then (
if p2 < (fJ13_bitCount_95d88 (r1 &&& ((gl s0 10) ^^^ (-1 : Int64)))) then (
some (0 : Int32)) else (
some (1 : Int32))) else (
some (0 : Int32)))
noncomputable def fX0_fewestKnees_J30 (p1 : Int32) (s0 : Rc) (q4 : Int32 × Int32) : Option ((Int32 × Int32) ⊕ Int32) :=
(fX0_isEnough q4.2 p1 s0).bind (fun r1 =>
if r1 = (0 : Int32) then (
some (.inl (q4.1, (q4.2 + (1 : Int32))))) else (
some (.inl (q4.2, (q4.2 + (1 : Int32))))))
noncomputable def fX0_fewestKnees_L4 (p1 : Int32) (s0 : Rc) (q4 : Int32 × Int32) : Option ((Int32 × Int32) ⊕ Int32) :=
if ((1 : Int32) <<< ((gi s0 8) &&& 31)) ≤ q4.2 then (
some (.inr q4.1)) else (
if q4.1 = (-1 : Int32) then (
fX0_fewestKnees_J30 p1 s0 q4) else (
if (fJ6_bitCount_0f7a4 q4.1) ≤ (fJ6_bitCount_0f7a4 q4.2) then (
some (.inl (q4.1, (q4.2 + (1 : Int32))))) else (
fX0_fewestKnees_J30 p1 s0 q4)))
noncomputable def fX0_fewestKnees (p1 : Int32) (s0 : Rc) : Option (Int32) :=
(loopF (fX0_fewestKnees_L4 p1 s0) ((-1 : Int32), (0 : Int32))).bind (fun o4 =>
some o4)
noncomputable def fX0_tellersOf_L4 (p1 : Int32) (s0 : Rc) (q4 : Int32 × Int32) : Option ((Int32 × Int32) ⊕ Int32) :=
if (gi s0 8) ≤ q4.2 then (
some (.inr q4.1)) else (
(fX0_hasWord q4.2 p1 s0).bind (fun r2 =>
if r2 = (0 : Int32) then (
some (.inl (q4.1, (q4.2 + (1 : Int32))))) else (
lt_ (q4.1 ||| ((1 : Int32) <<< (q4.2 &&& 31))) (fun x5 =>
some (.inl (x5, (q4.2 + (1 : Int32))))))))
noncomputable def fX0_tellersOf (p1 : Int32) (s0 : Rc) : Option (Int32) :=
(loopF (fX0_tellersOf_L4 p1 s0) ((0 : Int32), (0 : Int32))).bind (fun o4 =>
some o4)
noncomputable def fX10_bit (p1 : Int32) : Int32 :=
if p1 = (0 : Int32) then (
(0 : Int32)) else (
(1 : Int32))
noncomputable def fX0_weightOf_L4 (p1 : Int32) (s0 : Rc) (q4 : Int32 × Int32) : Option ((Int32 × Int32) ⊕ Int32) :=
if (gi s0 8) ≤ q4.2 then (
some (.inr q4.1)) else (
if (((p1.toUInt32 >>> (q4.2.toUInt32 &&& Int32.toUInt32 31)).toInt32) &&& (1 : Int32)) = (0 : Int32) then (
some (.inl (q4.1, (q4.2 + (1 : Int32))))) else (
gd (inb q4.2 8) (
lt_ (q4.1 + (ga s0 5 q4.2.toNatClampNeg)) (fun x4 =>
some (.inl (x4, (q4.2 + (1 : Int32))))))))
noncomputable def fX0_weightOf (p1 : Int32) (s0 : Rc) : Option (Int32) :=
(loopF (fX0_weightOf_L4 p1 s0) ((0 : Int32), (0 : Int32))).bind (fun o4 =>
some o4)
noncomputable def fX0_verdict (p1 : Int32) (p2 : Int32) (p3 : Int32) (s0 : Rc) : Option (Int32) :=
if p2 = (0 : Int32) then (
some (-1 : Int32)) else (
lt_ (p2 &&& (p3 ^^^ (-1 : Int32))) (fun x2 =>
if p1 = (0 : Int32) then (
if (fJ6_bitCount_0f7a4 p3) ≤ (fJ6_bitCount_0f7a4 x2) then (
some (fX10_bit (0 : Int32))) else (
some (fX10_bit (1 : Int32)))) else (
if p1 = (1 : Int32) then (
(fX0_weightOf p3 s0).bind (fun r6 =>
(fX0_weightOf x2 s0).bind (fun r7 =>
if r6 ≤ r7 then (
some (fX10_bit (0 : Int32))) else (
some (fX10_bit (1 : Int32)))))) else (
if p1 = (2 : Int32) then (
if p3 = (0 : Int32) then (
some (fX10_bit (0 : Int32))) else (
some (fX10_bit (1 : Int32)))) else (
if x2 = (0 : Int32) then (
some (fX10_bit (1 : Int32))) else (
some (fX10_bit (0 : Int32))))))))
noncomputable def fX0_fewestTurned_J70 (s0 : Rc) (r1 : Int32) (r2 : Int32) (r3 : Int32) (q30 : Int32 × Int32) (y70_7 : Int32) : Option ((Int32 × Int32) ⊕ Int32) :=
(fX0_verdict (gi s0 12) r1 (r2 ^^^ q30.2) s0).bind (fun r4 =>
if r4 = r3 then (
some (.inl (q30.1, (q30.2 + (1 : Int32))))) else (
some (.inl (y70_7, (q30.2 + (1 : Int32))))))
noncomputable def fX0_fewestTurned_L30 (s0 : Rc) (r1 : Int32) (r2 : Int32) (r3 : Int32) (q30 : Int32 × Int32) : Option ((Int32 × Int32) ⊕ Int32) :=
if ((1 : Int32) <<< ((gi s0 8) &&& 31)) ≤ q30.2 then (
some (.inr q30.1)) else (
lt_ (fJ6_bitCount_0f7a4 q30.2) (fun x7 =>
if (q30.2 &&& (r1 ^^^ (-1 : Int32))) = (0 : Int32) then (
if q30.1 = (-1 : Int32) then (
fX0_fewestTurned_J70 s0 r1 r2 r3 q30 x7) else (
if q30.1 ≤ x7 then (
some (.inl (q30.1, (q30.2 + (1 : Int32))))) else (
fX0_fewestTurned_J70 s0 r1 r2 r3 q30 x7))) else (
some (.inl (q30.1, (q30.2 + (1 : Int32)))))))
noncomputable def fX0_fewestTurned (p1 : Int32) (s0 : Rc) : Option (Int32) :=
(fX0_tellersOf p1 s0).bind (fun r1 =>
(fX0_believersOf p1 s0).bind (fun r2 =>
(fX0_verdict (gi s0 12) r1 r2 s0).bind (fun r3 =>
(loopF (fX0_fewestTurned_L30 s0 r1 r2 r3) ((-1 : Int32), (1 : Int32))).bind (fun o30 =>
some o30))))
noncomputable def fX0_fitsBy (p1 : Int32) (p2 : Int32) (s0 : Rc) : Option (Int32) :=
lt_ ((fX0_daysThere s0) &&& (fX10_later (fX0_daysThere s0) (-p2))) (fun x1 =>
gd (inb p1 8) (
some (fJ13_bitCount_95d88 (x1 &&& (((gb s0 6 p1.toNatClampNeg) ^^^ (fX10_later (fX0_feltWeather p1 s0) (-p2))) ^^^ (-1 : Int64))))))
noncomputable def fX0_wetOn (p1 : Int32) (s0 : Rc) : Int32 :=
((((gl s0 10).toUInt64 >>> (p1.toInt64.toUInt64 &&& Int64.toUInt64 63)).toInt64) &&& (1 : Int64)).toInt32
noncomputable def fX0_keptUnder_L5 (p1 : Int32) (p2 : Int32) (s0 : Rc) (q5 : Int32 × Int32) : Option ((Int32 × Int32) ⊕ Int32) :=
if (gi s0 9) ≤ q5.2 then (
some (.inr q5.1)) else (
(fX0_tellersOf q5.2 s0).bind (fun r2 =>
(fX0_believersOf q5.2 s0).bind (fun r3 =>
(fX0_verdict p1 (r2 &&& (p2 ^^^ (-1 : Int32))) (r3 &&& (p2 ^^^ (-1 : Int32))) s0).bind (fun r4 =>
if r4 = (fX0_wetOn q5.2 s0) then (
some (.inl ((q5.1 + (1 : Int32)), (q5.2 + (1 : Int32))))) else (
some (.inl (q5.1, (q5.2 + (1 : Int32)))))))))
noncomputable def fX0_keptUnder (p1 : Int32) (p2 : Int32) (s0 : Rc) : Option (Int32) :=
(loopF (fX0_keptUnder_L5 p1 p2 s0) ((0 : Int32), (0 : Int32))).bind (fun o5 =>
some o5)
noncomputable def fX0_leaning (p1 : Int32) (s0 : Rc) : Option (Int32) :=
(fX0_believersOf p1 s0).bind (fun r1 =>
(fX0_weightOf r1 s0).bind (fun r2 =>
(fX0_tellersOf p1 s0).bind (fun r3 =>
(fX0_weightOf (r3 &&& (r1 ^^^ (-1 : Int32))) s0).bind (fun r4 =>
some (r2 - r4)))))
noncomputable def fX0_learnOf_J31 (p1 : Int32) (q4 : Int32 × Int32 × Rc) (z31_0 : Int32) : Option ((Int32 × Int32 × Rc) ⊕ (Int32 × Rc)) :=
(fX0_hasWord q4.2.1 p1 q4.2.2).bind (fun r1 =>
if r1 = (0 : Int32) then (
some (.inl (q4.1, (q4.2.1 + (1 : Int32)), q4.2.2))) else (
(fX0_believes q4.2.1 p1 q4.2.2).bind (fun r4 =>
if r4 = z31_0 then (
some (.inl (q4.1, (q4.2.1 + (1 : Int32)), q4.2.2))) else (
gd (inb q4.2.1 8) (
lt_ (sa q4.2.2 5 (upd (ga q4.2.2 5) q4.2.1.toNatClampNeg (if (1 : Int32) < ((ga q4.2.2 5 q4.2.1.toNatClampNeg) / (2 : Int32)) then ((ga q4.2.2 5 q4.2.1.toNatClampNeg) / (2 : Int32)) else (1 : Int32)))) (fun s0_8 =>
some (.inl ((q4.1 + (1 : Int32)), (q4.2.1 + (1 : Int32)), s0_8))))))))
noncomputable def fX0_learnOf_L4 (p1 : Int32) (q4 : Int32 × Int32 × Rc) : Option ((Int32 × Int32 × Rc) ⊕ (Int32 × Rc)) :=
if (gi q4.2.2 8) ≤ q4.2.1 then (
some (.inr (q4.1, q4.2.2))) else (
if ((((fX0_feltWeather q4.2.1 q4.2.2).toUInt64 >>> (p1.toInt64.toUInt64 &&& Int64.toUInt64 63)).toInt64) &&& (1 : Int64)) = (0 : Int64) then (
fX0_learnOf_J31 p1 q4 (0 : Int32)) else (
fX0_learnOf_J31 p1 q4 (1 : Int32)))
noncomputable def fX0_learnOf (p1 : Int32) (s0 : Rc) : Option (Int32 × Rc) :=
(loopF (fX0_learnOf_L4 p1) ((0 : Int32), (0 : Int32), s0)).bind (fun o4 =>
some (o4.1, o4.2))
noncomputable def fX0_toldDays (p1 : Int32) (s0 : Rc) : Option (Int64) :=
(fX0_feelingDays p1 s0).bind (fun r1 =>
gd (inb p1 8) (
some ((fX10_later r1 (ga s0 1 p1.toNatClampNeg)) &&& (fX0_daysThere s0))))
noncomputable def fX0_rightDays (p1 : Int32) (s0 : Rc) : Option (Int64) :=
(fX0_toldDays p1 s0).bind (fun r1 =>
(fX0_rainDays p1 s0).bind (fun r2 =>
some (r1 &&& ((r2 ^^^ (fX0_feltWeather p1 s0)) ^^^ (-1 : Int64)))))
noncomputable def fX0_mostTrusted_L9 (s0 : Rc) (q9 : Int32 × Int32 × Int32 × Int32) : Option ((Int32 × Int32 × Int32 × Int32) ⊕ Int32) :=
if (gi s0 8) ≤ q9.2.2.2 then (
some (.inr q9.1)) else (
(fX0_rightDays q9.2.2.2 s0).bind (fun r2 =>
lt_ (fJ13_bitCount_95d88 r2) (fun x3 =>
(fX0_toldDays q9.2.2.2 s0).bind (fun r4 =>
lt_ (fJ13_bitCount_95d88 r4) (fun x5 =>
if x5 ≤ (0 : Int32) then (
some (.inl (q9.1, q9.2.1, q9.2.2.1, (q9.2.2.2 + (1 : Int32))))) else (
if q9.1 = (-1 : Int32) then (
some (.inl (q9.2.2.2, x3, x5, (q9.2.2.2 + (1 : Int32))))) else (
if (x3 * q9.2.2.1) ≤ (q9.2.1 * x5) then (
some (.inl (q9.1, q9.2.1, q9.2.2.1, (q9.2.2.2 + (1 : Int32))))) else (
some (.inl (q9.2.2.2, x3, x5, (q9.2.2.2 + (1 : Int32))))))))))))
noncomputable def fX0_mostTrusted (s0 : Rc) : Option (Int32) :=
(loopF (fX0_mostTrusted_L9 s0) ((-1 : Int32), (0 : Int32), (1 : Int32), (0 : Int32))).bind (fun o9 =>
some o9)
noncomputable def fX0_rainShare (p1 : Int32) (p2 : Int32) (s0 : Rc) : Option (Int64) :=
(fX0_likelihood p1 (1 : Int32) s0).bind (fun r1 =>
some (p2.toInt64 * r1))
noncomputable def fX0_setDislike (p1 : Int32) (p2 : Int32) (p3 : Int32) (s0 : Rc) : Option (Rc) :=
gd (inb ((p1 * (8 : Int32)) + p2) 64) (
lt_ (sa s0 7 (upd (ga s0 7) ((p1 * (8 : Int32)) + p2).toNatClampNeg p3)) (fun s0_2 =>
gd (inb ((p2 * (8 : Int32)) + p1) 64) (
lt_ (sa s0_2 7 (upd (ga s0_2 7) ((p2 * (8 : Int32)) + p1).toNatClampNeg p3)) (fun s0_4 =>
some s0_4))))
noncomputable def fX0_setFalse (p1 : Int32) (p2 : Int32) (s0 : Rc) : Option (Rc) :=
if (fX0_hasFarmer p1 s0) = (0 : Int32) then (
some s0) else (
gd (inb p1 8) (
lt_ (sa s0 3 (upd (ga s0 3) p1.toNatClampNeg p2)) (fun s0_4 =>
some s0_4)))
noncomputable def fX0_settle_L2 (q2 : Int32 × Rc) : Option ((Int32 × Rc) ⊕ Rc) :=
if (gi q2.2 8) ≤ q2.1 then (
some (.inr q2.2)) else (
gd (inb q2.1 8) (
lt_ (sa q2.2 5 (upd (ga q2.2 5) q2.1.toNatClampNeg (64 : Int32))) (fun s0_3 =>
(fX0_dueDays q2.1 s0_3).bind (fun r4 =>
lt_ (sb s0_3 6 (vp_updL (gb s0_3 6) q2.1.toNatClampNeg r4)) (fun s0_5 =>
some (.inl ((q2.1 + (1 : Int32)), s0_5)))))))
noncomputable def fX0_settle (s0 : Rc) : Option (Rc) :=
(loopF (fX0_settle_L2) ((0 : Int32), s0)).bind (fun o2 =>
some o2)
noncomputable def fX0_tippersOf_L30 (s0 : Rc) (r1 : Int32) (r2 : Int32) (r3 : Int32) (q30 : Int32 × Int32) : Option ((Int32 × Int32) ⊕ Int32) :=
if (gi s0 8) ≤ q30.2 then (
some (.inr q30.1)) else (
lt_ ((1 : Int32) <<< (q30.2 &&& 31)) (fun x5 =>
if (r1 &&& x5) = (0 : Int32) then (
some (.inl (q30.1, (q30.2 + (1 : Int32))))) else (
(fX0_verdict (gi s0 12) r1 (r2 ^^^ x5) s0).bind (fun r7 =>
if r7 = r3 then (
some (.inl (q30.1, (q30.2 + (1 : Int32))))) else (
lt_ (q30.1 ||| x5) (fun x9 =>
some (.inl (x9, (q30.2 + (1 : Int32))))))))))
noncomputable def fX0_tippersOf (p1 : Int32) (s0 : Rc) : Option (Int32) :=
(fX0_tellersOf p1 s0).bind (fun r1 =>
(fX0_believersOf p1 s0).bind (fun r2 =>
(fX0_verdict (gi s0 12) r1 r2 s0).bind (fun r3 =>
(loopF (fX0_tippersOf_L30 s0 r1 r2 r3) ((0 : Int32), (0 : Int32))).bind (fun o30 =>
some o30))))
noncomputable def fX0_turn (p1 : Int32) (p2 : Int32) (s0 : Rc) : Option (Rc) :=
if (fX0_hasFarmer p1 s0) = (0 : Int32) then (
some s0) else (
gd (inb p1 8) (
lt_ (sb s0 6 (vp_updL (gb s0 6) p1.toNatClampNeg ((gb s0 6 p1.toNatClampNeg) ^^^ ((1 : Int64) <<< (p2.toInt64 &&& 63))))) (fun s0_4 =>
some s0_4)))
noncomputable def fX0_twingesOn_L4 (p1 : Int32) (s0 : Rc) (q4 : Int32 × Int32) : Option ((Int32 × Int32) ⊕ Int32) :=
if (gi s0 8) ≤ q4.2 then (
some (.inr q4.1)) else (
(fX0_feltOn q4.2 p1 s0).bind (fun r2 =>
lt_ (q4.1 + r2) (fun x3 =>
some (.inl (x3, (q4.2 + (1 : Int32)))))))
noncomputable def fX0_twingesOn (p1 : Int32) (s0 : Rc) : Option (Int32) :=
(loopF (fX0_twingesOn_L4 p1 s0) ((0 : Int32), (0 : Int32))).bind (fun o4 =>
some o4)
noncomputable def fX0_twingesShared (p1 : Int32) (p2 : Int32) (s0 : Rc) : Option (Int32) :=
gd (inb p1 8) (
gd (inb p2 8) (
some (fJ13_bitCount_95d88 ((gb s0 6 p1.toNatClampNeg) &&& (gb s0 6 p2.toNatClampNeg)))))
noncomputable def fX0_verdictOf (p1 : Int32) (s0 : Rc) : Option (Int32) :=
(fX0_tellersOf p1 s0).bind (fun r1 =>
(fX0_believersOf p1 s0).bind (fun r2 =>
(fX0_verdict (gi s0 12) r1 r2 s0).bind (fun r3 =>
some r3)))
noncomputable def fX8_kindOf_J28 (p1 : Int32) : Int32 :=
if p1 = (59 : Int32) then (
(3 : Int32)) else (
if p1 = (60 : Int32) then (
(3 : Int32)) else (
if p1 = (62 : Int32) then (
(3 : Int32)) else (
if p1 = (61 : Int32) then (
(3 : Int32)) else (
if p1 = (10 : Int32) then (
(4 : Int32)) else (
if p1 = (32 : Int32) then (
(4 : Int32)) else (
(5 : Int32)))))))
noncomputable def fX8_kindOf_J14 (p1 : Int32) : Int32 :=
if p1 < (48 : Int32) then (
fX8_kindOf_J28 p1) else (
if (57 : Int32) < p1 then (
fX8_kindOf_J28 p1) else (
(2 : Int32)))
noncomputable def fX8_kindOf (p1 : Int32) : Int32 :=
if p1 < (97 : Int32) then (
fX8_kindOf_J14 p1) else (
if (122 : Int32) < p1 then (
fX8_kindOf_J14 p1) else (
(1 : Int32)))
noncomputable def fX8_withLetter (p1 : Int64) (p2 : Int32) : Int64 :=
((p1 <<< ((5 : Int32).toInt64 &&& 63)) ||| (((p2 - (97 : Int32)) + (1 : Int32)).toInt64))
noncomputable def fX8_lookAtWord_L78 (q78 : Int32 × Rc) : Option ((Int32 × Rc) ⊕ Rc) :=
if (30 : Int32) ≤ q78.1 then (
some (.inr q78.2)) else (
gd (inb q78.1 30) (
if (gb q78.2 1 q78.1.toNatClampNeg) = (gl q78.2 7) then (
lt_ (si q78.2 8 q78.1) (fun s0_6 =>
some (.inl ((q78.1 + (1 : Int32)), s0_6)))) else (
some (.inl ((q78.1 + (1 : Int32)), q78.2)))))
noncomputable def fX8_lookAtWord_J56 (y56_1 : Int64) (t56_0 : Rc) : Option (Rc) :=
if ((gi t56_0 5) - (gi t56_0 4)) ≤ (8 : Int32) then (
lt_ (sl t56_0 7 y56_1) (fun s0_2 =>
(loopF (fX8_lookAtWord_L78) ((0 : Int32), s0_2)).bind (fun o78 =>
some o78))) else (
some t56_0)
noncomputable def fX8_lookAtWord_L2 (q2 : Int64 × Rc) : Option ((Int64 × Rc) ⊕ (Int64 × Rc)) :=
if (gi q2.2 3) ≤ (gi q2.2 5) then (
some (.inr (q2.1, q2.2))) else (
gd (inb (gi q2.2 5) 900) (
if (fX8_kindOf (ga q2.2 0 (gi q2.2 5).toNatClampNeg)) = (1 : Int32) then (
lt_ (fX8_withLetter q2.1 (ga q2.2 0 (gi q2.2 5).toNatClampNeg)) (fun x10 =>
lt_ (si q2.2 5 ((gi q2.2 5) + (1 : Int32))) (fun s0_11 =>
some (.inl (x10, s0_11))))) else (
some (.inr (q2.1, q2.2)))))
noncomputable def fX8_lookAtWord (s0 : Rc) : Option (Rc) :=
(loopF (fX8_lookAtWord_L2) ((0 : Int64), s0)).bind (fun o2 =>
fX8_lookAtWord_J56 o2.1 o2.2)
noncomputable def fX8_lookAtNumber_L5 (q5 : Rc) : Option (Rc ⊕ Rc) :=
if (gi q5 3) ≤ (gi q5 5) then (
some (.inr q5)) else (
gd (inb (gi q5 5) 900) (
if (fX8_kindOf (ga q5 0 (gi q5 5).toNatClampNeg)) = (2 : Int32) then (
if (4 : Int32) ≤ ((gi q5 5) - (gi q5 4)) then (
lt_ (si q5 5 ((gi q5 5) + (1 : Int32))) (fun s0_6 =>
some (.inl s0_6))) else (
lt_ (si q5 9 ((((gi q5 9) * (10 : Int32)) + (ga q5 0 (gi q5 5).toNatClampNeg)) - (48 : Int32))) (fun s0_7 =>
lt_ (si s0_7 5 ((gi s0_7 5) + (1 : Int32))) (fun s0_8 =>
some (.inl s0_8))))) else (
some (.inr q5))))
noncomputable def fX8_lookAtNumber (s0 : Rc) : Option (Rc) :=
lt_ (si s0 9 (0 : Int32)) (fun s0_1 =>
(loopF (fX8_lookAtNumber_L5) s0_1).bind (fun o5 =>
some o5))
noncomputable def fX8_fail (p1 : Int32) (s0 : Rc) : Int32 × Rc :=
lt_ (si s0 12 p1) (fun s0_1 =>
lt_ (si s0_1 13 (gi s0_1 4)) (fun s0_2 =>
((0 : Int32), s0_2)))
noncomputable def fX8_advance_J76 (z76_0 : Int32) (t76_0 : Rc) : Option (Int32 × Rc) :=
lt_ (si t76_0 6 z76_0) (fun s0_1 =>
lt_ (si s0_1 5 (gi s0_1 4)) (fun s0_2 =>
lt_ (sl s0_2 7 (-1 : Int64)) (fun s0_3 =>
lt_ (si s0_3 8 (-1 : Int32)) (fun s0_4 =>
if (gi s0_4 6) = (0 : Int32) then (
some ((1 : Int32), s0_4)) else (
if (gi s0_4 6) = (1 : Int32) then (
(fX8_lookAtWord s0_4).bind (fun r7 =>
some ((1 : Int32), r7))) else (
if (gi s0_4 6) = (2 : Int32) then (
(fX8_lookAtNumber s0_4).bind (fun r9 =>
if ((gi r9 5) - (gi r9 4)) ≤ (4 : Int32) then (
some ((1 : Int32), r9)) else (
lt_ (fX8_fail (1 : Int32) r9) (fun r11 =>
if r11.1 = (0 : Int32) then (
some ((0 : Int32), r11.2)) else (
some ((1 : Int32), r11.2)))))) else (
if (gi s0_4 6) = (3 : Int32) then (
gd (inb (gi s0_4 4) 900) (
lt_ (si s0_4 9 (ga s0_4 0 (gi s0_4 4).toNatClampNeg)) (fun s0_16 =>
lt_ (si s0_16 5 ((gi s0_16 5) + (1 : Int32))) (fun s0_17 =>
some ((1 : Int32), s0_17))))) else (
lt_ (fX8_fail (1 : Int32) s0_4) (fun r18 =>
some (r18.1, r18.2))))))))))
noncomputable def fX8_advance_J48 (t48_0 : Rc) : Option (Int32 × Rc) :=
if (gi t48_0 3) ≤ (gi t48_0 4) then (
fX8_advance_J76 (0 : Int32) t48_0) else (
gd (inb (gi t48_0 4) 900) (
fX8_advance_J76 (fX8_kindOf (ga t48_0 0 (gi t48_0 4).toNatClampNeg)) t48_0))
noncomputable def fX8_advance_L8 (q8 : Rc) : Option (Rc ⊕ Rc) :=
if (gi q8 3) ≤ (gi q8 4) then (
some (.inr q8)) else (
gd (inb (gi q8 4) 900) (
if (fX8_kindOf (ga q8 0 (gi q8 4).toNatClampNeg)) = (4 : Int32) then (
lt_ (si q8 4 ((gi q8 4) + (1 : Int32))) (fun s0_26 =>
some (.inl s0_26))) else (
some (.inr q8))))
noncomputable def fX8_advance (s0 : Rc) : Option (Int32 × Rc) :=
lt_ (si s0 4 (gi s0 5)) (fun s0_22 =>
(loopF (fX8_advance_L8) s0_22).bind (fun o8 =>
fX8_advance_J48 o8))
noncomputable def fX8_begin (p1 : Int32) (s0 : Rc) : Option (Int32 × Rc) :=
lt_ (si s0 3 p1) (fun s0_1 =>
lt_ (si s0_1 5 (0 : Int32)) (fun s0_2 =>
lt_ (si s0_2 12 (0 : Int32)) (fun s0_3 =>
lt_ (si s0_3 13 (-1 : Int32)) (fun s0_4 =>
(fX8_advance s0_4).bind (fun r5 =>
some (r5.1, r5.2))))))
noncomputable def fX8_isAtEnd (s0 : Rc) : Int32 :=
if (gi s0 6) = (0 : Int32) then (
(1 : Int32)) else (
(0 : Int32))
noncomputable def fX8_mustBeName_J27 (s0 : Rc) : Int32 × Rc :=
lt_ (fX8_fail (2 : Int32) s0) (fun r1 =>
if r1.1 = (0 : Int32) then (
((0 : Int32), r1.2)) else (
((1 : Int32), r1.2)))
noncomputable def fX8_mustBeName (s0 : Rc) : Int32 × Rc :=
if (gi s0 6) = (1 : Int32) then (
if (gl s0 7) = (-1 : Int64) then (
fX8_mustBeName_J27 s0) else (
if (gi s0 8) = (-1 : Int32) then (
((1 : Int32), s0)) else (
fX8_mustBeName_J27 s0))) else (
fX8_mustBeName_J27 s0)
noncomputable def fX1_readNewcomer (s0 : Rc) (s1 : Rc) (s2 : Rc) : Option (Int32 × Rc × Rc × Rc) :=
if (gi s2 8) < (8 : Int32) then (
(fX8_advance s1).bind (fun r2 =>
if r2.1 = (0 : Int32) then (
some ((0 : Int32), s0, r2.2, s2)) else (
lt_ (fX8_mustBeName r2.2) (fun r5 =>
if r5.1 = (0 : Int32) then (
some ((0 : Int32), s0, r5.2, s2)) else (
(fX0_farmerNamed (gl r5.2 7) s2).bind (fun r8 =>
if r8 = (-1 : Int32) then (
lt_ (si s0 2 (gi s2 8)) (fun s0_10 =>
gd (inb (gi s0_10 2) 8) (
lt_ (sb s2 0 (vp_updL (gb s2 0) (gi s0_10 2).toNatClampNeg (gl r5.2 7))) (fun s2_12 =>
lt_ (si s2_12 8 ((gi s2_12 8) + (1 : Int32))) (fun s2_13 =>
(fX8_advance r5.2).bind (fun r14 =>
some (r14.1, s0_10, r14.2, s2_13))))))) else (
lt_ (fX8_fail (3 : Int32) r5.2) (fun r16 =>
some (r16.1, s0, r16.2, s2))))))))) else (
lt_ (fX8_fail (6 : Int32) s1) (fun r18 =>
some (r18.1, s0, r18.2, s2)))
noncomputable def fX8_passWord (p1 : Int32) (s0 : Rc) : Option (Int32 × Rc) :=
if (gi s0 8) = p1 then (
(fX8_advance s0).bind (fun r4 =>
some (r4.1, r4.2))) else (
lt_ (fX8_fail (2 : Int32) s0) (fun r2 =>
some (r2.1, r2.2)))
noncomputable def fX10_outside (p1 : Int32) (p2 : Int32) (p3 : Int32) : Int32 :=
if p1 < p2 then (
(1 : Int32)) else (
if p1 ≤ p3 then (
(0 : Int32)) else (
(1 : Int32)))
noncomputable def fX8_passNumber (p1 : Int32) (p2 : Int32) (s0 : Rc) : Option (Int32 × Rc) :=
if (gi s0 6) = (2 : Int32) then (
if (fX10_outside (gi s0 9) p1 p2) = (0 : Int32) then (
lt_ (si s0 10 (gi s0 9)) (fun s0_4 =>
(fX8_advance s0_4).bind (fun r5 =>
some (r5.1, r5.2)))) else (
lt_ (fX8_fail (4 : Int32) s0) (fun r7 =>
some (r7.1, r7.2)))) else (
lt_ (fX8_fail (2 : Int32) s0) (fun r9 =>
some (r9.1, r9.2)))
noncomputable def fX1_readLag_J30 (s0 : Rc) (s1 : Rc) (s2 : Rc) (y30_1 : Int32) (z30_0 : Int32) : Option (Int32 × Rc × Rc) :=
(fX8_passWord z30_0 s1).bind (fun r1 =>
if r1.1 = (0 : Int32) then (
some ((0 : Int32), r1.2, s2)) else (
(fX8_passNumber (fX10_bit y30_1) (3 : Int32) r1.2).bind (fun r4 =>
if r4.1 = (0 : Int32) then (
some ((0 : Int32), r4.2, s2)) else (
if y30_1 = (0 : Int32) then (
gd (inb (gi s0 2) 8) (
lt_ (sa s2 1 (upd (ga s2 1) (gi s0 2).toNatClampNeg (gi r4.2 10))) (fun s2_9 =>
some ((1 : Int32), r4.2, s2_9)))) else (
gd (inb (gi s0 2) 8) (
lt_ (sa s2 1 (upd (ga s2 1) (gi s0 2).toNatClampNeg (-(gi r4.2 10)))) (fun s2_11 =>
some ((1 : Int32), r4.2, s2_11))))))))
noncomputable def fX1_readLag_J16 (s0 : Rc) (s1 : Rc) (s2 : Rc) (z16_0 : Int32) : Option (Int32 × Rc × Rc) :=
if z16_0 = (0 : Int32) then (
fX1_readLag_J30 s0 s1 s2 z16_0 (1 : Int32)) else (
fX1_readLag_J30 s0 s1 s2 z16_0 (2 : Int32))
noncomputable def fX1_readLag (s0 : Rc) (s1 : Rc) (s2 : Rc) : Option (Int32 × Rc × Rc) :=
if (gi s1 8) = (2 : Int32) then (
fX1_readLag_J16 s0 s1 s2 (1 : Int32)) else (
fX1_readLag_J16 s0 s1 s2 (0 : Int32))
noncomputable def fX1_readKnee (s0 : Rc) (s1 : Rc) (s2 : Rc) : Option (Int32 × Rc × Rc) :=
(fX8_passWord (3 : Int32) s1).bind (fun r1 =>
if r1.1 = (0 : Int32) then (
some ((0 : Int32), r1.2, s2)) else (
(fX8_passNumber (0 : Int32) (16 : Int32) r1.2).bind (fun r4 =>
if r4.1 = (0 : Int32) then (
some ((0 : Int32), r4.2, s2)) else (
gd (inb (gi s0 2) 8) (
lt_ (sa s2 2 (upd (ga s2 2) (gi s0 2).toNatClampNeg (gi r4.2 10))) (fun s2_8 =>
(fX8_passWord (4 : Int32) r4.2).bind (fun r9 =>
if r9.1 = (0 : Int32) then (
some ((0 : Int32), r9.2, s2_8)) else (
(fX8_passNumber (0 : Int32) (16 : Int32) r9.2).bind (fun r12 =>
if r12.1 = (0 : Int32) then (
some ((0 : Int32), r12.2, s2_8)) else (
lt_ (sa s2_8 3 (upd (ga s2_8 3) (gi s0 2).toNatClampNeg (gi r12.2 10))) (fun s2_15 =>
if (gi r12.2 8) = (5 : Int32) then (
lt_ (si s2_15 13 ((gi s2_15 13) ||| ((1 : Int32) <<< ((gi s0 2) &&& 31)))) (fun s2_17 =>
(fX8_advance r12.2).bind (fun r18 =>
some (r18.1, r18.2, s2_17)))) else (
some ((1 : Int32), r12.2, s2_15)))))))))))))
noncomputable def fX1_readCure (s0 : Rc) (s1 : Rc) (s2 : Rc) : Option (Int32 × Rc × Rc) :=
gd (inb (gi s0 2) 8) (
lt_ (sa s2 4 (upd (ga s2 4) (gi s0 2).toNatClampNeg (61 : Int32))) (fun s2_2 =>
if (gi s1 8) = (6 : Int32) then (
(fX8_passWord (6 : Int32) s1).bind (fun r4 =>
if r4.1 = (0 : Int32) then (
some ((0 : Int32), r4.2, s2_2)) else (
(fX8_passNumber (0 : Int32) (60 : Int32) r4.2).bind (fun r7 =>
if r7.1 = (0 : Int32) then (
some ((0 : Int32), r7.2, s2_2)) else (
lt_ (sa s2_2 4 (upd (ga s2_2 4) (gi s0 2).toNatClampNeg (gi r7.2 10))) (fun s2_10 =>
some ((1 : Int32), r7.2, s2_10))))))) else (
some ((1 : Int32), s1, s2_2))))
noncomputable def fX8_mustBeFarmer (s0 : Rc) (s1 : Rc) : Option (Int32 × Rc) :=
lt_ (fX8_mustBeName s0) (fun r1 =>
if r1.1 = (0 : Int32) then (
some ((0 : Int32), r1.2)) else (
(fX0_farmerNamed (gl r1.2 7) s1).bind (fun r4 =>
lt_ (si r1.2 11 r4) (fun s0_5 =>
if (gi s0_5 11) = (-1 : Int32) then (
lt_ (fX8_fail (3 : Int32) s0_5) (fun r7 =>
if r7.1 = (0 : Int32) then (
some ((0 : Int32), r7.2)) else (
some ((1 : Int32), r7.2)))) else (
some ((1 : Int32), s0_5))))))
noncomputable def fX8_passFarmer (s0 : Rc) (s1 : Rc) : Option (Int32 × Rc) :=
(fX8_mustBeFarmer s0 s1).bind (fun r1 =>
if r1.1 = (0 : Int32) then (
some ((0 : Int32), r1.2)) else (
(fX8_advance r1.2).bind (fun r4 =>
if r4.1 = (0 : Int32) then (
some ((0 : Int32), r4.2)) else (
some ((1 : Int32), r4.2)))))
noncomputable def fX1_readDislikes (s0 : Rc) (s1 : Rc) (s2 : Rc) : Option (Int32 × Rc × Rc) :=
(fX8_advance s1).bind (fun r1 =>
if r1.1 = (0 : Int32) then (
some ((0 : Int32), r1.2, s2)) else (
(fX8_passFarmer r1.2 s2).bind (fun r4 =>
if r4.1 = (0 : Int32) then (
some ((0 : Int32), r4.2, s2)) else (
lt_ (gi r4.2 11) (fun x7 =>
(fX8_mustBeFarmer r4.2 s2).bind (fun r8 =>
if r8.1 = (0 : Int32) then (
some ((0 : Int32), r8.2, s2)) else (
if (gi r8.2 11) = x7 then (
lt_ (fX8_fail (5 : Int32) r8.2) (fun r19 =>
some (r19.1, r19.2, s2))) else (
(fX8_advance r8.2).bind (fun r12 =>
if r12.1 = (0 : Int32) then (
some ((0 : Int32), r12.2, s2)) else (
(fX8_passNumber (0 : Int32) (99 : Int32) r12.2).bind (fun r15 =>
if r15.1 = (0 : Int32) then (
some ((0 : Int32), r15.2, s2)) else (
(fX0_setDislike x7 (gi r15.2 11) (gi r15.2 10) s2).bind (fun r18 =>
some ((1 : Int32), r15.2, r18))))))))))))))
noncomputable def fX8_weatherAt_J22 (z22_0 : Int32) : Option (Int32) :=
if z22_0 = (100 : Int32) then (
some (0 : Int32)) else (
if z22_0 = (104 : Int32) then (
some (2 : Int32)) else (
if z22_0 = (114 : Int32) then (
some (1 : Int32)) else (
some (-1 : Int32))))
noncomputable def fX8_weatherAt_J21  : Option (Int32) :=
fX8_weatherAt_J22 (0 : Int32)
noncomputable def fX8_weatherAt (p1 : Int32) (s0 : Rc) : Option (Int32) :=
if p1 < (0 : Int32) then (
fX8_weatherAt_J21 ) else (
if (gi s0 3) ≤ p1 then (
fX8_weatherAt_J21 ) else (
gd (inb p1 900) (
fX8_weatherAt_J22 (ga s0 0 p1.toNatClampNeg))))
noncomputable def fX8_mustBeLetters_J66 (s0 : Rc) (y66_1 : Int32) : Option (Int32 × Rc) :=
if y66_1 = (0 : Int32) then (
lt_ (fX8_fail (2 : Int32) s0) (fun r2 =>
if r2.1 = (0 : Int32) then (
some ((0 : Int32), r2.2)) else (
some ((1 : Int32), r2.2)))) else (
some ((1 : Int32), s0))
noncomputable def fX8_mustBeLetters_L33 (s0 : Rc) (q33 : Int32 × Int32) : Option ((Int32 × Int32) ⊕ Int32) :=
if q33.1 = (0 : Int32) then (
some (.inr q33.1)) else (
if (gi s0 5) ≤ q33.2 then (
some (.inr q33.1)) else (
(fX8_weatherAt q33.2 s0).bind (fun r8 =>
if r8 = (-1 : Int32) then (
some (.inl ((0 : Int32), (q33.2 + (1 : Int32))))) else (
some (.inl ((1 : Int32), (q33.2 + (1 : Int32))))))))
noncomputable def fX8_mustBeLetters_J27 (s0 : Rc) (z27_0 : Int32) : Option (Int32 × Rc) :=
lt_ (gi s0 4) (fun x5 =>
(loopF (fX8_mustBeLetters_L33 s0) (z27_0, x5)).bind (fun o33 =>
fX8_mustBeLetters_J66 s0 o33))
noncomputable def fX8_mustBeLetters_J26 (s0 : Rc) : Option (Int32 × Rc) :=
fX8_mustBeLetters_J27 s0 (0 : Int32)
noncomputable def fX8_mustBeLetters (s0 : Rc) : Option (Int32 × Rc) :=
if (gi s0 6) = (1 : Int32) then (
if (60 : Int32) < ((gi s0 5) - (gi s0 4)) then (
fX8_mustBeLetters_J26 s0) else (
fX8_mustBeLetters_J27 s0 (1 : Int32))) else (
fX8_mustBeLetters_J26 s0)
noncomputable def fX1_readWeather_L68 (r4 : Int32 × Rc) (q68 : Int32 × Rc) : Option ((Int32 × Rc) ⊕ Rc) :=
if (gi r4.2 5) ≤ q68.1 then (
some (.inr q68.2)) else (
(fX8_weatherAt q68.1 r4.2).bind (fun r10 =>
lt_ (fX0_addDay r10 q68.2) (fun r11 =>
some (.inl ((q68.1 + (1 : Int32)), r11)))))
noncomputable def fX1_readWeather (s0 : Rc) (s1 : Rc) (s2 : Rc) : Option (Int32 × Rc × Rc) :=
(fX8_advance s1).bind (fun r1 =>
if r1.1 = (0 : Int32) then (
some ((0 : Int32), r1.2, s2)) else (
(fX8_mustBeLetters r1.2).bind (fun r4 =>
if r4.1 = (0 : Int32) then (
some ((0 : Int32), r4.2, s2)) else (
if (((gi s2 9) + (gi r4.2 5)) - (gi r4.2 4)) ≤ (60 : Int32) then (
lt_ (gi r4.2 4) (fun x8 =>
(loopF (fX1_readWeather_L68 r4) (x8, s2)).bind (fun o68 =>
(fX8_advance r4.2).bind (fun r12 =>
some (r12.1, r12.2, o68))))) else (
lt_ (fX8_fail (6 : Int32) r4.2) (fun r14 =>
some (r14.1, r14.2, s2)))))))
noncomputable def fX1_readVote (s0 : Rc) (s1 : Rc) (s2 : Rc) : Option (Int32 × Rc × Rc × Rc) :=
if (gi s0 3) = (0 : Int32) then (
lt_ (si s0 3 (1 : Int32)) (fun s0_2 =>
(fX8_advance s1).bind (fun r3 =>
if r3.1 = (0 : Int32) then (
some ((0 : Int32), s0_2, r3.2, s2)) else (
if (fX10_outside (gi r3.2 8) (10 : Int32) (13 : Int32)) = (0 : Int32) then (
lt_ (si s2 12 ((gi r3.2 8) - (10 : Int32))) (fun s2_8 =>
(fX8_advance r3.2).bind (fun r9 =>
some (r9.1, s0_2, r9.2, s2_8)))) else (
lt_ (fX8_fail (2 : Int32) r3.2) (fun r11 =>
some (r11.1, s0_2, r11.2, s2))))))) else (
lt_ (fX8_fail (5 : Int32) s1) (fun r13 =>
some (r13.1, s0, r13.2, s2)))
noncomputable def fX1_readPart (s0 : Rc) (s1 : Rc) (s2 : Rc) : Option (Int32 × Rc × Rc × Rc) :=
if (gi s1 8) = (0 : Int32) then (
(fX1_readNewcomer s0 s1 s2).bind (fun r2 =>
if r2.1 = (0 : Int32) then (
some ((0 : Int32), r2.2.1, r2.2.2.1, r2.2.2.2)) else (
(fX1_readLag r2.2.1 r2.2.2.1 r2.2.2.2).bind (fun r5 =>
if r5.1 = (0 : Int32) then (
some ((0 : Int32), r2.2.1, r5.2.1, r5.2.2)) else (
(fX1_readKnee r2.2.1 r5.2.1 r5.2.2).bind (fun r8 =>
if r8.1 = (0 : Int32) then (
some ((0 : Int32), r2.2.1, r8.2.1, r8.2.2)) else (
(fX1_readCure r2.2.1 r8.2.1 r8.2.2).bind (fun r11 =>
if r11.1 = (0 : Int32) then (
some ((0 : Int32), r2.2.1, r11.2.1, r11.2.2)) else (
some ((1 : Int32), r2.2.1, r11.2.1, r11.2.2)))))))))) else (
if (gi s1 8) = (7 : Int32) then (
(fX1_readDislikes s0 s1 s2).bind (fun r15 =>
some (r15.1, s0, r15.2.1, r15.2.2))) else (
if (gi s1 8) = (8 : Int32) then (
(fX1_readWeather s0 s1 s2).bind (fun r18 =>
some (r18.1, s0, r18.2.1, r18.2.2))) else (
if (gi s1 8) = (9 : Int32) then (
(fX1_readVote s0 s1 s2).bind (fun r21 =>
some (r21.1, r21.2.1, r21.2.2.1, r21.2.2.2))) else (
lt_ (fX8_fail (2 : Int32) s1) (fun r23 =>
some (r23.1, s0, r23.2, s2))))))
noncomputable def fX8_isSign (p1 : Int32) (s0 : Rc) : Int32 :=
if (gi s0 6) = (3 : Int32) then (
if (gi s0 9) = p1 then (
(1 : Int32)) else (
(0 : Int32))) else (
(0 : Int32))
noncomputable def fX8_passSign (p1 : Int32) (s0 : Rc) : Option (Int32 × Rc) :=
if (fX8_isSign p1 s0) = (0 : Int32) then (
lt_ (fX8_fail (2 : Int32) s0) (fun r3 =>
some (r3.1, r3.2))) else (
(fX8_advance s0).bind (fun r5 =>
some (r5.1, r5.2)))
noncomputable def fX1_isRead_J75 (y75_2 : Int32) (t75_0 : Rc) (t75_1 : Rc) (t75_2 : Rc) : Option (Int32 × Rc × Rc × Rc) :=
if y75_2 = (0 : Int32) then (
gd (isb y75_2) (
some (y75_2, t75_0, t75_1, t75_2))) else (
(fX0_settle t75_2).bind (fun r3 =>
gd (isb y75_2) (
some (y75_2, t75_0, t75_1, r3))))
noncomputable def fX1_isRead_L23 (q23 : Int32 × Int32 × Rc × Rc × Rc) : Option ((Int32 × Int32 × Rc × Rc × Rc) ⊕ (Int32 × Rc × Rc × Rc)) :=
if (900 : Int32) ≤ q23.2.1 then (
some (.inr (q23.1, q23.2.2.1, q23.2.2.2.1, q23.2.2.2.2))) else (
if q23.1 = (0 : Int32) then (
some (.inr (q23.1, q23.2.2.1, q23.2.2.2.1, q23.2.2.2.2))) else (
if (fX8_isAtEnd q23.2.2.2.1) = (0 : Int32) then (
(fX1_readPart q23.2.2.1 q23.2.2.2.1 q23.2.2.2.2).bind (fun r13 =>
if r13.1 = (0 : Int32) then (
some (.inl ((0 : Int32), (q23.2.1 + (1 : Int32)), r13.2.1, r13.2.2.1, r13.2.2.2))) else (
(fX8_passSign (59 : Int32) r13.2.2.1).bind (fun r16 =>
if r16.1 = (0 : Int32) then (
some (.inl ((0 : Int32), (q23.2.1 + (1 : Int32)), r13.2.1, r16.2, r13.2.2.2))) else (
some (.inl ((1 : Int32), (q23.2.1 + (1 : Int32)), r13.2.1, r16.2, r13.2.2.2))))))) else (
some (.inr (q23.1, q23.2.2.1, q23.2.2.2.1, q23.2.2.2.2)))))
noncomputable def fX1_isRead (p1 : Int32) (s0 : Rc) (s1 : Rc) (s2 : Rc) : Option (Int32 × Rc × Rc × Rc) :=
(fX0_empty s2).bind (fun r5 =>
lt_ (si s0 3 (0 : Int32)) (fun s0_6 =>
(fX8_begin p1 s1).bind (fun r7 =>
(loopF (fX1_isRead_L23) (r7.1, (0 : Int32), s0_6, r7.2, r5)).bind (fun o23 =>
fX1_isRead_J75 o23.1 o23.2.1 o23.2.2.1 o23.2.2.2))))
noncomputable def fX2_begin (p1 : Int32) (s0 : Rc) : Rc :=
lt_ (si s0 0 p1) (fun s0_1 =>
s0_1)
noncomputable def fX3_addDay (p2 : Int32) (s0 : Rc) (s1 : Rc) : Rc × Rc :=
if (fX0_canAddDay s1) = (0 : Int32) then (
lt_ (si s0 3 ((gi s0 3) + (1 : Int32))) (fun s0_8 =>
(s0_8, s1))) else (
lt_ (fX0_addDay p2 s1) (fun r3 =>
lt_ (si s0 4 ((gi s0 4) + (1 : Int32))) (fun s0_4 =>
if p2 = (0 : Int32) then (
lt_ (si s0_4 5 ((gi s0_4 5) + (fX10_bit (0 : Int32)))) (fun s0_6 =>
(s0_6, r3))) else (
lt_ (si s0_4 5 ((gi s0_4 5) + (fX10_bit (1 : Int32)))) (fun s0_7 =>
(s0_7, r3))))))
noncomputable def fX3_compare (p1 : Int32) (p2 : Int32) (p3 : Int32) : Int32 :=
if p2 = (60 : Int32) then (
if p3 ≤ p1 then (
(0 : Int32)) else (
(1 : Int32))) else (
if p2 = (62 : Int32) then (
if p1 ≤ p3 then (
(0 : Int32)) else (
(1 : Int32))) else (
if p1 = p3 then (
(1 : Int32)) else (
(0 : Int32))))
noncomputable def fX3_lookBack (p3 : Int32) (s0 : Rc) (s1 : Rc) (s2 : Rc) : Option (Rc × Rc) :=
gd (inb p3 60) (
lt_ (ga s2 3 p3.toNatClampNeg) (fun x2 =>
if x2 < (gi s1 9) then (
if (ga s2 0 p3.toNatClampNeg) = (18 : Int32) then (
(fX0_turn (ga s2 1 p3.toNatClampNeg) x2 s1).bind (fun r6 =>
some (s0, r6))) else (
(fX0_learnOf x2 s1).bind (fun r5 =>
some (s0, r5.2)))) else (
lt_ (si s0 3 ((gi s0 3) + (1 : Int32))) (fun s0_7 =>
some (s0_7, s1)))))
noncomputable def fX3_doStep (p3 : Int32) (s0 : Rc) (s1 : Rc) (s2 : Rc) (s3 : Rc) : Option (Rc × Rc × Rc) :=
gd (inb p3 60) (
lt_ (ga s3 3 p3.toNatClampNeg) (fun x2 =>
lt_ (ga s3 1 p3.toNatClampNeg) (fun x3 =>
if (ga s3 0 p3.toNatClampNeg) = (14 : Int32) then (
lt_ (fX2_drawBy16 s1) (fun r5 =>
if x2 ≤ r5.1 then (
lt_ (fX3_addDay (0 : Int32) s0 s2) (fun r7 =>
some (r7.1, r5.2, r7.2))) else (
lt_ (fX3_addDay (1 : Int32) s0 s2) (fun r8 =>
some (r8.1, r5.2, r8.2))))) else (
if (ga s3 0 p3.toNatClampNeg) = (15 : Int32) then (
lt_ (fX3_addDay (0 : Int32) s0 s2) (fun r10 =>
some (r10.1, s1, r10.2))) else (
if (ga s3 0 p3.toNatClampNeg) = (16 : Int32) then (
lt_ (fX3_addDay (2 : Int32) s0 s2) (fun r12 =>
some (r12.1, s1, r12.2))) else (
if (ga s3 0 p3.toNatClampNeg) = (17 : Int32) then (
(fX0_feelBy s2 s1).bind (fun r14 =>
some (s0, r14.2, r14.1))) else (
if (ga s3 0 p3.toNatClampNeg) = (20 : Int32) then (
(fX0_cureOn x3 x2 s2).bind (fun r16 =>
some (s0, s1, r16))) else (
if (ga s3 0 p3.toNatClampNeg) = (21 : Int32) then (
(fX0_setFalse x3 x2 s2).bind (fun r18 =>
some (s0, s1, r18))) else (
(fX3_lookBack p3 s0 s2 s3).bind (fun r19 =>
some (r19.1, s1, r19.2)))))))))))
noncomputable def fX3_holds (p3 : Int32) (s0 : Rc) (s1 : Rc) : Option (Int32) :=
gd (inb p3 60) (
lt_ (ga s1 3 p3.toNatClampNeg) (fun x2 =>
lt_ (ga s1 1 p3.toNatClampNeg) (fun x3 =>
if (ga s1 0 p3.toNatClampNeg) = (24 : Int32) then (
(fX0_verdictOf x2 s0).bind (fun r5 =>
if r5 = (1 : Int32) then (
some (1 : Int32)) else (
some (0 : Int32)))) else (
if (ga s1 0 p3.toNatClampNeg) = (25 : Int32) then (
if (fX0_hasFarmer x3 s0) = (0 : Int32) then (
some (0 : Int32)) else (
gd (inb x3 8) (
if (fX3_compare (ga s0 5 x3.toNatClampNeg) (ga s1 2 p3.toNatClampNeg) x2) = (0 : Int32) then (
some (0 : Int32)) else (
some (1 : Int32))))) else (
some (fX3_compare (gi s0 9) (ga s1 2 p3.toNatClampNeg) x2))))))
noncomputable def fX5_hasPlace (p1 : Int32) (s0 : Rc) : Int32 :=
if p1 < (0 : Int32) then (
(0 : Int32)) else (
if (gi s0 5) ≤ p1 then (
(0 : Int32)) else (
(1 : Int32)))
noncomputable def fX3_goRound (p2 : Int32) (s0 : Rc) (s1 : Rc) : Option (Int32 × Rc) :=
gd (inb p2 60) (
lt_ (ga s1 4 p2.toNatClampNeg) (fun x2 =>
if (fX5_hasPlace x2 s1) = (0 : Int32) then (
some ((p2 + (1 : Int32)), s0)) else (
gd (inb x2 60) (
if (ga s1 0 x2.toNatClampNeg) = (27 : Int32) then (
lt_ (sa s0 1 (upd (ga s0 1) x2.toNatClampNeg ((ga s0 1 x2.toNatClampNeg) - (1 : Int32)))) (fun s0_7 =>
if (ga s0_7 1 x2.toNatClampNeg) ≤ (0 : Int32) then (
some ((p2 + (1 : Int32)), s0_7)) else (
some ((x2 + (1 : Int32)), s0_7)))) else (
some ((p2 + (1 : Int32)), s0))))))
noncomputable def fX3_follow (p3 : Int32) (s0 : Rc) (s1 : Rc) (s2 : Rc) (s3 : Rc) : Option (Int32 × Rc × Rc × Rc) :=
gd (inb p3 60) (
if (ga s3 0 p3.toNatClampNeg) = (24 : Int32) then (
(fX3_holds p3 s2 s3).bind (fun r3 =>
if r3 = (0 : Int32) then (
some (((ga s3 4 p3.toNatClampNeg) + (1 : Int32)), s0, s1, s2)) else (
some ((p3 + (1 : Int32)), s0, s1, s2)))) else (
if (ga s3 0 p3.toNatClampNeg) = (25 : Int32) then (
(fX3_holds p3 s2 s3).bind (fun r7 =>
if r7 = (0 : Int32) then (
some (((ga s3 4 p3.toNatClampNeg) + (1 : Int32)), s0, s1, s2)) else (
some ((p3 + (1 : Int32)), s0, s1, s2)))) else (
if (ga s3 0 p3.toNatClampNeg) = (26 : Int32) then (
(fX3_holds p3 s2 s3).bind (fun r11 =>
if r11 = (0 : Int32) then (
some (((ga s3 4 p3.toNatClampNeg) + (1 : Int32)), s0, s1, s2)) else (
some ((p3 + (1 : Int32)), s0, s1, s2)))) else (
if (ga s3 0 p3.toNatClampNeg) = (27 : Int32) then (
lt_ (sa s0 1 (upd (ga s0 1) p3.toNatClampNeg (ga s3 3 p3.toNatClampNeg))) (fun s0_15 =>
some ((p3 + (1 : Int32)), s0_15, s1, s2))) else (
if (ga s3 0 p3.toNatClampNeg) = (28 : Int32) then (
(fX3_goRound p3 s0 s3).bind (fun r17 =>
some (r17.1, r17.2, s1, s2))) else (
if (ga s3 0 p3.toNatClampNeg) = (29 : Int32) then (
some ((gi s3 5), s0, s1, s2)) else (
(fX3_doStep p3 s0 s1 s2 s3).bind (fun r19 =>
some ((p3 + (1 : Int32)), r19.1, r19.2.1, r19.2.2)))))))))
noncomputable def fX3_run_J104 (s3 : Rc) (q39 : Int32 × Int32 × Rc × Rc × Rc) (y104_6 : Int32) : Option ((Int32 × Int32 × Rc × Rc × Rc) ⊕ (Rc × Rc × Rc)) :=
lt_ (si q39.2.2.1 2 ((gi q39.2.2.1 2) + (fX10_bit y104_6))) (fun s0_7 =>
(fX3_follow q39.1 s0_7 q39.2.2.2.1 q39.2.2.2.2 s3).bind (fun r8 =>
some (.inl (r8.1, (q39.2.1 + (1 : Int32)), r8.2.1, r8.2.2.1, r8.2.2.2))))
noncomputable def fX3_run_J79 (s3 : Rc) (q39 : Int32 × Int32 × Rc × Rc × Rc) (z79_0 : Int32) : Option ((Int32 × Int32 × Rc × Rc × Rc) ⊕ (Rc × Rc × Rc)) :=
if z79_0 = (0 : Int32) then (
fX3_run_J104 s3 q39 z79_0) else (
if (gi q39.2.2.1 2) = (200 : Int32) then (
lt_ (si q39.2.2.1 6 (1 : Int32)) (fun s0_11 =>
some (.inl (q39.1, (q39.2.1 + (1 : Int32)), s0_11, q39.2.2.2.1, q39.2.2.2.2)))) else (
fX3_run_J104 s3 q39 z79_0))
noncomputable def fX3_run_L39 (s3 : Rc) (q39 : Int32 × Int32 × Rc × Rc × Rc) : Option ((Int32 × Int32 × Rc × Rc × Rc) ⊕ (Rc × Rc × Rc)) :=
if (1000000 : Int32) ≤ q39.2.1 then (
some (.inr (q39.2.2.1, q39.2.2.2.1, q39.2.2.2.2))) else (
if (fX5_hasPlace q39.1 s3) = (0 : Int32) then (
some (.inr (q39.2.2.1, q39.2.2.2.1, q39.2.2.2.2))) else (
if (gi q39.2.2.1 6) = (0 : Int32) then (
gd (inb q39.1 60) (
if (ga s3 0 q39.1.toNatClampNeg) = (28 : Int32) then (
fX3_run_J79 s3 q39 (0 : Int32)) else (
fX3_run_J79 s3 q39 (1 : Int32)))) else (
some (.inr (q39.2.2.1, q39.2.2.2.1, q39.2.2.2.2)))))
noncomputable def fX3_run (p3 : Int32) (s0 : Rc) (s1 : Rc) (s2 : Rc) (s3 : Rc) : Option (Rc × Rc × Rc) :=
lt_ (fX2_begin p3 s1) (fun r1 =>
lt_ (si s0 2 (0 : Int32)) (fun s0_2 =>
lt_ (si s0_2 3 (0 : Int32)) (fun s0_3 =>
lt_ (si s0_3 4 (0 : Int32)) (fun s0_4 =>
lt_ (si s0_4 5 (0 : Int32)) (fun s0_5 =>
lt_ (si s0_5 6 (0 : Int32)) (fun s0_6 =>
(loopF (fX3_run_L39 s3) ((0 : Int32), (0 : Int32), s0_6, r1, s2)).bind (fun o39 =>
some (o39.1, o39.2.1, o39.2.2))))))))
noncomputable def fX5_copyFrom (s0 : Rc) (s1 : Rc) : Option (Rc) :=
lt_ (sa s0 0 (va_cpy (ga s1 0) (ga s0 0) (0 : Int32).toNatClampNeg (0 : Int32).toNatClampNeg (60 : Int32).toNatClampNeg)) (fun s0_1 =>
lt_ (sa s0_1 1 (va_cpy (ga s1 1) (ga s0_1 1) (0 : Int32).toNatClampNeg (0 : Int32).toNatClampNeg (60 : Int32).toNatClampNeg)) (fun s0_2 =>
lt_ (sa s0_2 2 (va_cpy (ga s1 2) (ga s0_2 2) (0 : Int32).toNatClampNeg (0 : Int32).toNatClampNeg (60 : Int32).toNatClampNeg)) (fun s0_3 =>
lt_ (sa s0_3 3 (va_cpy (ga s1 3) (ga s0_3 3) (0 : Int32).toNatClampNeg (0 : Int32).toNatClampNeg (60 : Int32).toNatClampNeg)) (fun s0_4 =>
lt_ (sa s0_4 4 (va_cpy (ga s1 4) (ga s0_4 4) (0 : Int32).toNatClampNeg (0 : Int32).toNatClampNeg (60 : Int32).toNatClampNeg)) (fun s0_5 =>
lt_ (si s0_5 5 (gi s1 5)) (fun s0_6 =>
lt_ (si s0_6 6 (gi s1 6)) (fun s0_7 =>
gd (isb (gi s1 7)) (
lt_ (si s0_7 7 (gi s1 7)) (fun s0_9 =>
some s0_9)))))))))
noncomputable def fX4_giveBack (s0 : Rc) (s1 : Rc) (s2 : Rc) (s3 : Rc) (s4 : Rc) : Option (Rc × Rc) :=
(fX0_copyFrom s3 s1).bind (fun r1 =>
(fX5_copyFrom s4 s2).bind (fun r2 =>
some (r1, r2)))
noncomputable def fX4_keep (s0 : Rc) (s1 : Rc) (s2 : Rc) (s3 : Rc) (s4 : Rc) : Option (Rc × Rc) :=
(fX0_copyFrom s1 s3).bind (fun r1 =>
(fX5_copyFrom s2 s4).bind (fun r2 =>
some (r1, r2)))
noncomputable def fX5_empty (s0 : Rc) : Rc :=
lt_ (si s0 5 (0 : Int32)) (fun s0_1 =>
lt_ (si s0_1 6 (0 : Int32)) (fun s0_2 =>
lt_ (si s0_2 7 (0 : Int32)) (fun s0_3 =>
s0_3)))
noncomputable def fX5_hasRoom (s0 : Rc) : Int32 :=
if (60 : Int32) ≤ (gi s0 5) then (
(0 : Int32)) else (
(1 : Int32))
noncomputable def fX6_readEnd (s0 : Rc) (s1 : Rc) (s2 : Rc) : Option (Int32 × Rc × Rc × Rc) :=
if (gi s0 4) = (0 : Int32) then (
lt_ (fX8_fail (2 : Int32) s1) (fun r2 =>
some (r2.1, s0, r2.2, s2))) else (
if (fX5_hasRoom s2) = (0 : Int32) then (
lt_ (fX8_fail (2 : Int32) s1) (fun r17 =>
some (r17.1, s0, r17.2, s2))) else (
lt_ (si s0 4 ((gi s0 4) - (1 : Int32))) (fun s0_6 =>
lt_ (si s0_6 5 (gi s2 5)) (fun s0_7 =>
gd (inb (gi s0_7 5) 60) (
lt_ (sa s2 0 (upd (ga s2 0) (gi s0_7 5).toNatClampNeg (28 : Int32))) (fun s2_9 =>
gd (inb (gi s0_7 4) 3) (
lt_ (sa s2_9 4 (upd (ga s2_9 4) (gi s0_7 5).toNatClampNeg (ga s0_7 3 (gi s0_7 4).toNatClampNeg))) (fun s2_11 =>
gd (inb (ga s0_7 3 (gi s0_7 4).toNatClampNeg) 60) (
lt_ (sa s2_11 4 (upd (ga s2_11 4) (ga s0_7 3 (gi s0_7 4).toNatClampNeg).toNatClampNeg (gi s0_7 5))) (fun s2_13 =>
lt_ (si s2_13 5 ((gi s2_13 5) + (1 : Int32))) (fun s2_14 =>
(fX8_advance s1).bind (fun r15 =>
some (r15.1, s0_7, r15.2, s2_14)))))))))))))
noncomputable def fX6_isStep (p1 : Int32) : Int32 :=
if p1 < (14 : Int32) then (
(0 : Int32)) else (
if (29 : Int32) < p1 then (
(0 : Int32)) else (
if p1 = (19 : Int32) then (
(0 : Int32)) else (
if p1 = (24 : Int32) then (
(0 : Int32)) else (
if p1 = (25 : Int32) then (
(0 : Int32)) else (
if p1 = (26 : Int32) then (
(0 : Int32)) else (
if p1 = (28 : Int32) then (
(0 : Int32)) else (
(1 : Int32))))))))
noncomputable def fX6_readStep_J120 (s1 : Rc) (s2 : Rc) (y120_1 : Int32) (t120_0 : Rc) : Option (Int32 × Rc × Rc × Rc) :=
gd (inb (gi t120_0 5) 60) (
lt_ (sa s2 0 (upd (ga s2 0) (gi t120_0 5).toNatClampNeg y120_1)) (fun s2_2 =>
lt_ (si s2_2 5 ((gi s2_2 5) + (1 : Int32))) (fun s2_3 =>
lt_ (si s2_3 6 ((gi s2_3 6) + (1 : Int32))) (fun s2_4 =>
(fX8_advance s1).bind (fun r5 =>
some (r5.1, t120_0, r5.2, s2_4))))))
noncomputable def fX6_readStep_J79 (s1 : Rc) (s2 : Rc) (y79_1 : Int32) (t79_0 : Rc) : Option (Int32 × Rc × Rc × Rc) :=
if (gi t79_0 4) < (3 : Int32) then (
gd (inb (gi t79_0 4) 3) (
lt_ (sa t79_0 3 (upd (ga t79_0 3) (gi t79_0 4).toNatClampNeg (gi t79_0 5))) (fun s0_9 =>
lt_ (si s0_9 4 ((gi s0_9 4) + (1 : Int32))) (fun s0_10 =>
fX6_readStep_J120 s1 s2 y79_1 s0_10)))) else (
lt_ (fX8_fail (7 : Int32) s1) (fun r11 =>
some (r11.1, t79_0, r11.2, s2)))
noncomputable def fX6_readStep (s0 : Rc) (s1 : Rc) (s2 : Rc) : Option (Int32 × Rc × Rc × Rc) :=
lt_ (gi s1 8) (fun x13 =>
if (fX6_isStep x13) = (0 : Int32) then (
lt_ (fX8_fail (2 : Int32) s1) (fun r26 =>
some (r26.1, s0, r26.2, s2))) else (
if (30 : Int32) ≤ (gi s2 6) then (
lt_ (fX8_fail (6 : Int32) s1) (fun r17 =>
some (r17.1, s0, r17.2, s2))) else (
if (fX5_hasRoom s2) = (0 : Int32) then (
lt_ (fX8_fail (6 : Int32) s1) (fun r24 =>
some (r24.1, s0, r24.2, s2))) else (
lt_ (si s0 5 (gi s2 5)) (fun s0_21 =>
if x13 = (23 : Int32) then (
fX6_readStep_J79 s1 s2 x13 s0_21) else (
if x13 = (27 : Int32) then (
fX6_readStep_J79 s1 s2 x13 s0_21) else (
fX6_readStep_J120 s1 s2 x13 s0_21)))))))
noncomputable def fX6_readFarmerOn (s0 : Rc) (s1 : Rc) (s2 : Rc) : Option (Int32 × Rc) :=
(fX8_passFarmer s1 s2).bind (fun r1 =>
if r1.1 = (0 : Int32) then (
some ((0 : Int32), r1.2)) else (
(fX8_passWord (19 : Int32) r1.2).bind (fun r4 =>
if r4.1 = (0 : Int32) then (
some ((0 : Int32), r4.2)) else (
some ((1 : Int32), r4.2)))))
noncomputable def fX6_readSign_J45 (s0 : Rc) (s1 : Rc) (s2 : Rc) : Option (Int32 × Rc × Rc) :=
gd (inb (gi s0 5) 60) (
lt_ (sa s2 2 (upd (ga s2 2) (gi s0 5).toNatClampNeg (gi s1 9))) (fun s2_2 =>
(fX8_advance s1).bind (fun r3 =>
some (r3.1, r3.2, s2_2))))
noncomputable def fX6_readSign (s0 : Rc) (s1 : Rc) (s2 : Rc) : Option (Int32 × Rc × Rc) :=
if (fX8_isSign (60 : Int32) s1) = (0 : Int32) then (
if (fX8_isSign (62 : Int32) s1) = (0 : Int32) then (
if (fX8_isSign (61 : Int32) s1) = (0 : Int32) then (
lt_ (fX8_fail (2 : Int32) s1) (fun r11 =>
some (r11.1, r11.2, s2))) else (
fX6_readSign_J45 s0 s1 s2)) else (
fX6_readSign_J45 s0 s1 s2)) else (
fX6_readSign_J45 s0 s1 s2)
noncomputable def fX6_readTest (s0 : Rc) (s1 : Rc) (s2 : Rc) (s3 : Rc) : Option (Int32 × Rc × Rc) :=
gd (inb (gi s0 5) 60) (
lt_ (sa s2 0 (upd (ga s2 0) (gi s0 5).toNatClampNeg (gi s1 8))) (fun s2_2 =>
if (gi s1 8) = (24 : Int32) then (
(fX8_advance s1).bind (fun r4 =>
if r4.1 = (0 : Int32) then (
some ((0 : Int32), r4.2, s2_2)) else (
(fX8_passNumber (0 : Int32) (62 : Int32) r4.2).bind (fun r7 =>
if r7.1 = (0 : Int32) then (
some ((0 : Int32), r7.2, s2_2)) else (
some ((1 : Int32), r7.2, s2_2)))))) else (
if (gi s1 8) = (25 : Int32) then (
(fX8_advance s1).bind (fun r11 =>
if r11.1 = (0 : Int32) then (
some ((0 : Int32), r11.2, s2_2)) else (
(fX8_passFarmer r11.2 s3).bind (fun r14 =>
if r14.1 = (0 : Int32) then (
some ((0 : Int32), r14.2, s2_2)) else (
(fX6_readSign s0 r14.2 s2_2).bind (fun r17 =>
if r17.1 = (0 : Int32) then (
some ((0 : Int32), r17.2.1, r17.2.2)) else (
(fX8_passNumber (0 : Int32) (64 : Int32) r17.2.1).bind (fun r20 =>
if r20.1 = (0 : Int32) then (
some ((0 : Int32), r20.2, r17.2.2)) else (
some ((1 : Int32), r20.2, r17.2.2)))))))))) else (
if (gi s1 8) = (26 : Int32) then (
(fX8_advance s1).bind (fun r24 =>
if r24.1 = (0 : Int32) then (
some ((0 : Int32), r24.2, s2_2)) else (
(fX6_readSign s0 r24.2 s2_2).bind (fun r27 =>
if r27.1 = (0 : Int32) then (
some ((0 : Int32), r27.2.1, r27.2.2)) else (
(fX8_passNumber (0 : Int32) (60 : Int32) r27.2.1).bind (fun r30 =>
if r30.1 = (0 : Int32) then (
some ((0 : Int32), r30.2, r27.2.2)) else (
some ((1 : Int32), r30.2, r27.2.2)))))))) else (
lt_ (fX8_fail (2 : Int32) s1) (fun r33 =>
some (r33.1, r33.2, s2_2)))))))
noncomputable def fX6_readRest (s0 : Rc) (s1 : Rc) (s2 : Rc) (s3 : Rc) : Option (Int32 × Rc × Rc) :=
gd (inb (gi s0 5) 60) (
if (ga s2 0 (gi s0 5).toNatClampNeg) = (14 : Int32) then (
(fX8_passNumber (0 : Int32) (16 : Int32) s1).bind (fun r3 =>
some (r3.1, r3.2, s2))) else (
if (ga s2 0 (gi s0 5).toNatClampNeg) = (18 : Int32) then (
(fX6_readFarmerOn s0 s1 s3).bind (fun r6 =>
if r6.1 = (0 : Int32) then (
some ((0 : Int32), r6.2, s2)) else (
(fX8_passNumber (0 : Int32) (59 : Int32) r6.2).bind (fun r9 =>
if r9.1 = (0 : Int32) then (
some ((0 : Int32), r9.2, s2)) else (
some ((1 : Int32), r9.2, s2)))))) else (
if (ga s2 0 (gi s0 5).toNatClampNeg) = (20 : Int32) then (
(fX6_readFarmerOn s0 s1 s3).bind (fun r13 =>
if r13.1 = (0 : Int32) then (
some ((0 : Int32), r13.2, s2)) else (
(fX8_passNumber (0 : Int32) (60 : Int32) r13.2).bind (fun r16 =>
if r16.1 = (0 : Int32) then (
some ((0 : Int32), r16.2, s2)) else (
some ((1 : Int32), r16.2, s2)))))) else (
if (ga s2 0 (gi s0 5).toNatClampNeg) = (21 : Int32) then (
(fX8_passFarmer s1 s3).bind (fun r20 =>
if r20.1 = (0 : Int32) then (
some ((0 : Int32), r20.2, s2)) else (
(fX8_passNumber (0 : Int32) (16 : Int32) r20.2).bind (fun r23 =>
if r23.1 = (0 : Int32) then (
some ((0 : Int32), r23.2, s2)) else (
some ((1 : Int32), r23.2, s2)))))) else (
if (ga s2 0 (gi s0 5).toNatClampNeg) = (22 : Int32) then (
(fX8_passNumber (0 : Int32) (59 : Int32) s1).bind (fun r27 =>
some (r27.1, r27.2, s2))) else (
if (ga s2 0 (gi s0 5).toNatClampNeg) = (23 : Int32) then (
(fX6_readTest s0 s1 s2 s3).bind (fun r30 =>
some (r30.1, r30.2.1, r30.2.2))) else (
if (ga s2 0 (gi s0 5).toNatClampNeg) = (27 : Int32) then (
(fX8_passNumber (1 : Int32) (99 : Int32) s1).bind (fun r33 =>
some (r33.1, r33.2, s2))) else (
some ((1 : Int32), s1, s2)))))))))
noncomputable def fX6_keepRest (s0 : Rc) (s1 : Rc) (s2 : Rc) : Option (Int32 × Rc) :=
gd (inb (gi s0 5) 60) (
lt_ (sa s2 3 (upd (ga s2 3) (gi s0 5).toNatClampNeg (gi s1 10))) (fun s2_2 =>
lt_ (sa s2_2 1 (upd (ga s2_2 1) (gi s0 5).toNatClampNeg (gi s1 11))) (fun s2_3 =>
some ((1 : Int32), s2_3))))
noncomputable def fX6_isRead_J117 (y117_2 : Int32) (t117_0 : Rc) (t117_1 : Rc) (t117_2 : Rc) : Option (Int32 × Rc × Rc × Rc) :=
lt_ (si t117_2 7 (1 : Int32)) (fun s2_1 =>
if y117_2 = (0 : Int32) then (
some ((0 : Int32), t117_0, t117_1, s2_1)) else (
if (gi t117_0 4) = (0 : Int32) then (
some ((1 : Int32), t117_0, t117_1, s2_1)) else (
lt_ (fX8_fail (2 : Int32) t117_1) (fun r4 =>
if r4.1 = (0 : Int32) then (
some ((0 : Int32), t117_0, r4.2, s2_1)) else (
some ((1 : Int32), t117_0, r4.2, s2_1))))))
noncomputable def fX6_isRead_J88 (q23 : Int32 × Int32 × Rc × Rc × Rc) (z88_0 : Int32) (t88_0 : Rc) (t88_1 : Rc) (t88_2 : Rc) : Option ((Int32 × Int32 × Rc × Rc × Rc) ⊕ (Int32 × Rc × Rc × Rc)) :=
if z88_0 = (0 : Int32) then (
some (.inl ((0 : Int32), (q23.2.1 + (1 : Int32)), t88_0, t88_1, t88_2))) else (
(fX8_passSign (59 : Int32) t88_1).bind (fun r12 =>
if r12.1 = (0 : Int32) then (
some (.inl ((0 : Int32), (q23.2.1 + (1 : Int32)), t88_0, r12.2, t88_2))) else (
some (.inl ((1 : Int32), (q23.2.1 + (1 : Int32)), t88_0, r12.2, t88_2)))))
noncomputable def fX6_isRead_J87 (q23 : Int32 × Int32 × Rc × Rc × Rc) (t87_0 : Rc) (t87_1 : Rc) (t87_2 : Rc) : Option ((Int32 × Int32 × Rc × Rc × Rc) ⊕ (Int32 × Rc × Rc × Rc)) :=
fX6_isRead_J88 q23 (0 : Int32) t87_0 t87_1 t87_2
noncomputable def fX6_isRead_L23 (s3 : Rc) (q23 : Int32 × Int32 × Rc × Rc × Rc) : Option ((Int32 × Int32 × Rc × Rc × Rc) ⊕ (Int32 × Rc × Rc × Rc)) :=
if (60 : Int32) < q23.2.1 then (
some (.inr (q23.1, q23.2.2.1, q23.2.2.2.1, q23.2.2.2.2))) else (
if q23.1 = (0 : Int32) then (
some (.inr (q23.1, q23.2.2.1, q23.2.2.2.1, q23.2.2.2.2))) else (
if (fX8_isAtEnd q23.2.2.2.1) = (0 : Int32) then (
if (gi q23.2.2.2.1 8) = (28 : Int32) then (
(fX6_readEnd q23.2.2.1 q23.2.2.2.1 q23.2.2.2.2).bind (fun r29 =>
fX6_isRead_J88 q23 r29.1 r29.2.1 r29.2.2.1 r29.2.2.2)) else (
(fX6_readStep q23.2.2.1 q23.2.2.2.1 q23.2.2.2.2).bind (fun r20 =>
if r20.1 = (0 : Int32) then (
fX6_isRead_J87 q23 r20.2.1 r20.2.2.1 r20.2.2.2) else (
(fX6_readRest r20.2.1 r20.2.2.1 r20.2.2.2 s3).bind (fun r23 =>
if r23.1 = (0 : Int32) then (
fX6_isRead_J87 q23 r20.2.1 r23.2.1 r23.2.2) else (
(fX6_keepRest r20.2.1 r23.2.1 r23.2.2).bind (fun r26 =>
if r26.1 = (0 : Int32) then (
fX6_isRead_J87 q23 r20.2.1 r23.2.1 r26.2) else (
fX6_isRead_J88 q23 (1 : Int32) r20.2.1 r23.2.1 r26.2)))))))) else (
some (.inr (q23.1, q23.2.2.1, q23.2.2.2.1, q23.2.2.2.2)))))
noncomputable def fX6_isRead (p1 : Int32) (s0 : Rc) (s1 : Rc) (s2 : Rc) (s3 : Rc) : Option (Int32 × Rc × Rc × Rc) :=
lt_ (fX5_empty s2) (fun r7 =>
lt_ (si s0 4 (0 : Int32)) (fun s0_8 =>
(fX8_begin p1 s1).bind (fun r9 =>
(loopF (fX6_isRead_L23 s3) (r9.1, (0 : Int32), s0_8, r9.2, r7)).bind (fun o23 =>
fX6_isRead_J117 o23.1 o23.2.1 o23.2.2.1 o23.2.2.2))))
noncomputable def fX7_cost_J24 (p3 : Int32) (p4 : Int32) (s0 : Rc) (z24_0 : Int32) : Option (Int32) :=
gd (inb ((p3 * (8 : Int32)) + p4) 2048) (
some (z24_0 + (ga s0 0 ((p3 * (8 : Int32)) + p4).toNatClampNeg)))
noncomputable def fX7_cost (p2 : Int32) (p3 : Int32) (p4 : Int32) (s0 : Rc) (s1 : Rc) : Option (Int32) :=
if p4 = (-1 : Int32) then (
some (0 : Int32)) else (
if p2 = (-1 : Int32) then (
fX7_cost_J24 p3 p4 s0 (0 : Int32)) else (
(fX0_dislike p2 p4 s1).bind (fun r4 =>
fX7_cost_J24 p3 p4 s0 r4)))
noncomputable def fX7_cheapest_L6 (p2 : Int32) (p3 : Int32) (s0 : Rc) (s1 : Rc) (q6 : Int32 × Int32) : Option ((Int32 × Int32) ⊕ Int32) :=
if (gi s1 8) ≤ q6.2 then (
some (.inr q6.1)) else (
if (((p3.toUInt32 >>> (q6.2.toUInt32 &&& Int32.toUInt32 31)).toInt32) &&& (1 : Int32)) = (0 : Int32) then (
some (.inl (q6.1, (q6.2 + (1 : Int32))))) else (
if q6.1 = (-1 : Int32) then (
some (.inl (q6.2, (q6.2 + (1 : Int32))))) else (
(fX7_cost p2 p3 q6.2 s0 s1).bind (fun r4 =>
(fX7_cost p2 p3 q6.1 s0 s1).bind (fun r5 =>
if r5 ≤ r4 then (
some (.inl (q6.1, (q6.2 + (1 : Int32))))) else (
some (.inl (q6.2, (q6.2 + (1 : Int32))))))))))
noncomputable def fX7_cheapest (p2 : Int32) (p3 : Int32) (s0 : Rc) (s1 : Rc) : Option (Int32) :=
(loopF (fX7_cheapest_L6 p2 p3 s0 s1) ((-1 : Int32), (0 : Int32))).bind (fun o6 =>
some o6)
noncomputable def fX7_sitDown_L29 (s1 : Rc) (q29 : Int32 × Int32 × Int32 × Rc) : Option ((Int32 × Int32 × Int32 × Rc) ⊕ Rc) :=
if (gi s1 8) ≤ q29.2.2.1 then (
some (.inr q29.2.2.2)) else (
(fX7_cheapest q29.2.1 q29.1 q29.2.2.2 s1).bind (fun r5 =>
if r5 = (-1 : Int32) then (
some (.inl (q29.1, q29.2.1, (q29.2.2.1 + (1 : Int32)), q29.2.2.2))) else (
gd (inb q29.2.2.1 8) (
lt_ (sa q29.2.2.2 1 (upd (ga q29.2.2.2 1) q29.2.2.1.toNatClampNeg r5)) (fun s0_8 =>
lt_ (q29.1 &&& (((1 : Int32) <<< (r5 &&& 31)) ^^^ (-1 : Int32))) (fun x9 =>
lt_ (si s0_8 2 (q29.2.2.1 + (1 : Int32))) (fun s0_10 =>
some (.inl (x9, r5, (q29.2.2.1 + (1 : Int32)), s0_10)))))))))
noncomputable def fX7_sitDown (p2 : Int32) (s0 : Rc) (s1 : Rc) : Option (Int32 × Rc) :=
(fX7_cheapest (-1 : Int32) p2 s0 s1).bind (fun r1 =>
(fX7_cost (-1 : Int32) p2 r1 s0 s1).bind (fun r2 =>
lt_ (si s0 2 (0 : Int32)) (fun s0_3 =>
(loopF (fX7_sitDown_L29 s1) (p2, (-1 : Int32), (0 : Int32), s0_3)).bind (fun o29 =>
some (r2, o29)))))
noncomputable def fX7_seat_L19 (s1 : Rc) (q11 : Int32 × Rc) (q19 : Int32 × Rc) : Option ((Int32 × Rc) ⊕ Rc) :=
if (gi s1 8) ≤ q19.1 then (
some (.inr q19.2)) else (
if (((q11.1.toUInt32 >>> (q19.1.toUInt32 &&& Int32.toUInt32 31)).toInt32) &&& (1 : Int32)) = (0 : Int32) then (
some (.inl ((q19.1 + (1 : Int32)), q19.2))) else (
lt_ (q11.1 &&& (((1 : Int32) <<< (q19.1 &&& 31)) ^^^ (-1 : Int32))) (fun x5 =>
(fX7_cheapest q19.1 x5 q19.2 s1).bind (fun r6 =>
(fX7_cost q19.1 x5 r6 q19.2 s1).bind (fun r7 =>
gd (inb ((q11.1 * (8 : Int32)) + q19.1) 2048) (
lt_ (sa q19.2 0 (upd (ga q19.2 0) ((q11.1 * (8 : Int32)) + q19.1).toNatClampNeg r7)) (fun s0_9 =>
some (.inl ((q19.1 + (1 : Int32)), s0_9)))))))))
noncomputable def fX7_seat_L11 (s1 : Rc) (x1 : Int32) (q11 : Int32 × Rc) : Option ((Int32 × Rc) ⊕ Rc) :=
if x1 < q11.1 then (
some (.inr q11.2)) else (
(loopF (fX7_seat_L19 s1 q11) ((0 : Int32), q11.2)).bind (fun o19 =>
some (.inl ((q11.1 + (1 : Int32)), o19))))
noncomputable def fX7_seat (s0 : Rc) (s1 : Rc) : Option (Int32 × Rc) :=
lt_ (((1 : Int32) <<< ((gi s1 8) &&& 31)) - (1 : Int32)) (fun x1 =>
(loopF (fX7_seat_L11 s1 x1) ((1 : Int32), s0)).bind (fun o11 =>
(fX7_sitDown x1 o11 s1).bind (fun r10 =>
some (r10.1, r10.2))))
noncomputable def fX8_append_L3 (p1 : Int32) (q3 : Int32 × Rc) : Option ((Int32 × Rc) ⊕ Rc) :=
if q3.1 < (0 : Int32) then (
some (.inr q3.2)) else (
if (900 : Int32) ≤ (gi q3.2 2) then (
some (.inr q3.2)) else (
gd (inb (gi q3.2 2) 900) (
lt_ (sa q3.2 0 (upd (ga q3.2 0) (gi q3.2 2).toNatClampNeg (vp_nar .byte (((p1.toUInt32 >>> (q3.1.toUInt32 &&& Int32.toUInt32 31)).toInt32).toInt8.toInt32)))) (fun s0_4 =>
lt_ (si s0_4 2 ((gi s0_4 2) + (1 : Int32))) (fun s0_5 =>
some (.inl ((q3.1 + (-8 : Int32)), s0_5)))))))
noncomputable def fX8_append (p1 : Int32) (s0 : Rc) : Option (Rc) :=
(loopF (fX8_append_L3 p1) ((24 : Int32), s0)).bind (fun o3 =>
some o3)
noncomputable def fX9_at (p1 : Int32) (p2 : Int32) (s0 : Rc) : Option (Int64) :=
gd (inb ((p1 * (60 : Int32)) + p2) 240) (
some (gb s0 0 ((p1 * (60 : Int32)) + p2).toNatClampNeg))
noncomputable def fX9_cut (p1 : Int32) (p2 : Int64) : Int64 :=
if p1 = (0 : Int32) then (
p2.toInt32.toInt8.toInt32.toInt64) else (
if p1 = (1 : Int32) then (
p2.toInt32.toInt16.toInt32.toInt64) else (
if p1 = (2 : Int32) then (
p2.toInt32.toInt64) else (
p2)))
noncomputable def fX9_hasPlaces (p1 : Int32) (p2 : Int32) (p3 : Int32) (s0 : Rc) : Option (Int32) :=
if p2 < (0 : Int32) then (
some (0 : Int32)) else (
gd (inb p1 4) (
if (ga s0 2 p1.toNatClampNeg) < p2 then (
some (0 : Int32)) else (
if ((ga s0 2 p1.toNatClampNeg) - p2) < p3 then (
some (0 : Int32)) else (
some (1 : Int32)))))
noncomputable def fX9_isMissing (p1 : Int32) (s0 : Rc) : Option (Int32) :=
gd (inb p1 4) (
if (ga s0 2 p1.toNatClampNeg) = (-1 : Int32) then (
some (1 : Int32)) else (
some (0 : Int32)))
noncomputable def fX9_lay_L17 (p1 : Int32) (p3 : Int32) (q17 : Int32 × Rc) : Option ((Int32 × Rc) ⊕ Rc) :=
if p3 ≤ q17.1 then (
some (.inr q17.2)) else (
gd (inb ((p1 * (60 : Int32)) + q17.1) 240) (
lt_ (sb q17.2 0 (vp_updL (gb q17.2 0) ((p1 * (60 : Int32)) + q17.1).toNatClampNeg (0 : Int64))) (fun s0_6 =>
some (.inl ((q17.1 + (1 : Int32)), s0_6)))))
noncomputable def fX9_lay (p1 : Int32) (p2 : Int32) (p3 : Int32) (s0 : Rc) : Option (Rc) :=
gd (inb p1 4) (
lt_ (sa s0 1 (upd (ga s0 1) p1.toNatClampNeg p2)) (fun s0_2 =>
lt_ (sa s0_2 2 (upd (ga s0_2 2) p1.toNatClampNeg p3)) (fun s0_3 =>
(loopF (fX9_lay_L17 p1 p3) ((0 : Int32), s0_3)).bind (fun o17 =>
some o17))))
noncomputable def fX9_move (p1 : Int32) (p2 : Int32) (p3 : Int32) (p4 : Int32) (p5 : Int32) (s0 : Rc) : Option (Rc) :=
gd (cpb ((p1 * (60 : Int32)) + p2) p5 240) (
gd (cpb ((p3 * (60 : Int32)) + p4) p5 240) (
lt_ (sb s0 0 (va_cpy (gb s0 0) (gb s0 0) ((p1 * (60 : Int32)) + p2).toNatClampNeg ((p3 * (60 : Int32)) + p4).toNatClampNeg p5.toNatClampNeg)) (fun s0_3 =>
some s0_3)))
noncomputable def fX9_put (p1 : Int32) (p2 : Int32) (p3 : Int64) (s0 : Rc) : Option (Rc) :=
gd (inb p1 4) (
gd (inb ((p1 * (60 : Int32)) + p2) 240) (
lt_ (sb s0 0 (vp_updL (gb s0 0) ((p1 * (60 : Int32)) + p2).toNatClampNeg (fX9_cut (ga s0 1 p1.toNatClampNeg) p3))) (fun s0_3 =>
some s0_3)))
noncomputable def fX10_noFarmer (p1 : Int32) (s0 : Rc) (s1 : Rc) : Int32 :=
if (fX0_hasFarmer p1 s1) = (0 : Int32) then (
(1 : Int32)) else (
(0 : Int32))
noncomputable def fX10_refuse (p1 : Int32) (s0 : Rc) : Int32 × Rc :=
lt_ (si s0 16 p1) (fun s0_1 =>
((-1 : Int32), s0_1))
noncomputable def fX10_answer (p1 : Int32) (s0 : Rc) : Int32 × Rc :=
lt_ (si s0 16 (0 : Int32)) (fun s0_1 =>
(p1, s0_1))
noncomputable def fX10_agrees_L18 (p1 : Int32) (s1 : Rc) (q18 : Int32 × Int32) : Option ((Int32 × Int32) ⊕ Int32) :=
if (gi s1 9) ≤ q18.2 then (
some (.inr q18.1)) else (
(fX0_hasWord p1 q18.2 s1).bind (fun r4 =>
if r4 = (0 : Int32) then (
some (.inl (q18.1, (q18.2 + (1 : Int32))))) else (
(fX0_believes p1 q18.2 s1).bind (fun r7 =>
(fX0_verdictOf q18.2 s1).bind (fun r9 =>
if (fX10_bit r7) = r9 then (
some (.inl ((q18.1 + (1 : Int32)), (q18.2 + (1 : Int32))))) else (
some (.inl (q18.1, (q18.2 + (1 : Int32))))))))))
noncomputable def fX10_agrees (p1 : Int32) (s0 : Rc) (s1 : Rc) : Option (Int32 × Rc) :=
if (fX10_noFarmer p1 s0 s1) = (0 : Int32) then (
(loopF (fX10_agrees_L18 p1 s1) ((0 : Int32), (0 : Int32))).bind (fun o18 =>
lt_ (fX10_answer o18 s0) (fun r11 =>
some (r11.1, r11.2)))) else (
lt_ (fX10_refuse (1 : Int32) s0) (fun r12 =>
some (r12.1, r12.2)))
noncomputable def fX10_noCouple (p1 : Int32) (p2 : Int32) (s0 : Rc) (s1 : Rc) : Int32 :=
if (fX10_noFarmer p1 s0 s1) = (0 : Int32) then (
if (fX10_noFarmer p2 s0 s1) = (0 : Int32) then (
if p1 = p2 then (
(1 : Int32)) else (
(0 : Int32))) else (
(1 : Int32))) else (
(1 : Int32))
noncomputable def fX10_alike (p1 : Int32) (p2 : Int32) (s0 : Rc) (s1 : Rc) : Option (Int32 × Rc) :=
if (fX10_noCouple p1 p2 s0 s1) = (0 : Int32) then (
(fX0_twingesShared p1 p2 s1).bind (fun r3 =>
lt_ (fX10_answer r3 s0) (fun r4 =>
some (r4.1, r4.2)))) else (
lt_ (fX10_refuse (1 : Int32) s0) (fun r5 =>
some (r5.1, r5.2)))
noncomputable def fX10_allow (s0 : Rc) : Int32 × Rc :=
lt_ (si s0 16 (0 : Int32)) (fun s0_1 =>
((1 : Int32), s0_1))
noncomputable def fX10_answerIfAny (p1 : Int32) (s0 : Rc) : Int32 × Rc :=
if p1 = (-1 : Int32) then (
lt_ (fX10_refuse (6 : Int32) s0) (fun r3 =>
(r3.1, r3.2))) else (
lt_ (fX10_answer p1 s0) (fun r2 =>
(r2.1, r2.2)))
noncomputable def fX10_noToldDay (p1 : Int32) : Int32 :=
(fX10_outside p1 (0 : Int32) (62 : Int32))
noncomputable def fX10_believers (p1 : Int32) (s0 : Rc) (s1 : Rc) : Option (Int32 × Rc) :=
if (fX10_noToldDay p1) = (0 : Int32) then (
(fX0_believersOf p1 s1).bind (fun r3 =>
lt_ (fX10_answer r3 s0) (fun r4 =>
some (r4.1, r4.2)))) else (
lt_ (fX10_refuse (1 : Int32) s0) (fun r5 =>
some (r5.1, r5.2)))
noncomputable def fX10_bench (p1 : Int32) (s0 : Rc) (s1 : Rc) (s2 : Rc) (s3 : Rc) (s4 : Rc) (s5 : Rc) : Option (Int32 × Rc × Rc × Rc × Rc × Rc × Rc) :=
if (fX10_outside p1 (0 : Int32) (gi s4 2)) = (0 : Int32) then (
(fX1_isRead p1 s5 s4 s3).bind (fun r3 =>
lt_ (si r3.2.2.1 2 (0 : Int32)) (fun s4_5 =>
if r3.1 = (0 : Int32) then (
lt_ (fX10_refuse (9 : Int32) s0) (fun r10 =>
some (r10.1, r10.2, s1, s2, r3.2.2.2, s4_5, r3.2.1))) else (
(fX0_copyFrom s1 r3.2.2.2).bind (fun r7 =>
lt_ (fX5_empty s2) (fun r8 =>
lt_ (fX10_answer (gi r7 8) s0) (fun r9 =>
some (r9.1, r9.2, r7, r8, r3.2.2.2, s4_5, r3.2.1)))))))) else (
lt_ (fX10_refuse (1 : Int32) s0) (fun r11 =>
some (r11.1, r11.2, s1, s2, s3, s4, s5)))
noncomputable def fX10_bestLaw_L4 (s1 : Rc) (q4 : Int32 × Int32) : Option ((Int32 × Int32) ⊕ Int32) :=
if (4 : Int32) ≤ q4.2 then (
some (.inr q4.1)) else (
(fX0_keptUnder q4.2 (0 : Int32) s1).bind (fun r2 =>
(fX0_keptUnder q4.1 (0 : Int32) s1).bind (fun r3 =>
if r2 ≤ r3 then (
some (.inl (q4.1, (q4.2 + (1 : Int32))))) else (
some (.inl (q4.2, (q4.2 + (1 : Int32))))))))
noncomputable def fX10_bestLaw (s0 : Rc) (s1 : Rc) : Option (Int32 × Rc) :=
(loopF (fX10_bestLaw_L4 s1) ((0 : Int32), (1 : Int32))).bind (fun o4 =>
lt_ (fX10_answer o4 s0) (fun r5 =>
some (r5.1, r5.2)))
noncomputable def fX10_bottom (s0 : Rc) : Int64 :=
(gl s0 18)
noncomputable def fX10_deny (p1 : Int32) (s0 : Rc) : Int32 × Rc :=
lt_ (si s0 16 p1) (fun s0_1 =>
((0 : Int32), s0_1))
noncomputable def fX10_brandy (p1 : Int32) (p2 : Int32) (s0 : Rc) (s1 : Rc) : Option (Int32 × Rc × Rc) :=
if (fX10_noFarmer p1 s0 s1) = (0 : Int32) then (
if (fX10_outside p2 (0 : Int32) (16 : Int32)) = (0 : Int32) then (
(fX0_setFalse p1 p2 s1).bind (fun r7 =>
lt_ (fX10_allow s0) (fun r8 =>
some (r8.1, r8.2, r7)))) else (
lt_ (fX10_deny (1 : Int32) s0) (fun r10 =>
some (r10.1, r10.2, s1)))) else (
lt_ (fX10_deny (1 : Int32) s0) (fun r3 =>
some (r3.1, r3.2, s1)))
noncomputable def fX10_clashes (p1 : Int32) (p2 : Int32) (s0 : Rc) (s1 : Rc) : Option (Int32 × Rc) :=
if (fX10_noCouple p1 p2 s0 s1) = (0 : Int32) then (
(fX0_toldDays p1 s1).bind (fun r3 =>
(fX0_toldDays p2 s1).bind (fun r4 =>
lt_ (r3 &&& r4) (fun x5 =>
(fX0_rainDays p1 s1).bind (fun r6 =>
(fX0_rainDays p2 s1).bind (fun r7 =>
lt_ (fX10_answer (fJ13_bitCount_95d88 (x5 &&& (r6 ^^^ r7))) s0) (fun r8 =>
some (r8.1, r8.2)))))))) else (
lt_ (fX10_refuse (1 : Int32) s0) (fun r9 =>
some (r9.1, r9.2)))
noncomputable def fX10_commonDivisor_L3 (q3 : Int64 × Int64 × Int32) : Option ((Int64 × Int64 × Int32) ⊕ Int64) :=
if (200 : Int32) ≤ q3.2.2 then (
some (.inr q3.1)) else (
if q3.2.1 = (0 : Int64) then (
some (.inr q3.1)) else (
gd (nz64 q3.2.1) (
lt_ (q3.1 - q3.1 / q3.2.1 * q3.2.1) (fun x4 =>
some (.inl (q3.2.1, x4, (q3.2.2 + (1 : Int32))))))))
noncomputable def fX10_commonDivisor (p1 : Int64) (p2 : Int64) : Option (Int64) :=
(loopF (fX10_commonDivisor_L3) (p1, p2, (0 : Int32))).bind (fun o3 =>
some o3)
noncomputable def fX10_cure (p1 : Int32) (p2 : Int32) (s0 : Rc) (s1 : Rc) : Option (Int32 × Rc × Rc) :=
if (fX10_noFarmer p1 s0 s1) = (0 : Int32) then (
if (fX10_outside p2 (0 : Int32) (60 : Int32)) = (0 : Int32) then (
(fX0_cureOn p1 p2 s1).bind (fun r7 =>
lt_ (fX10_allow s0) (fun r8 =>
some (r8.1, r8.2, r7)))) else (
lt_ (fX10_deny (1 : Int32) s0) (fun r10 =>
some (r10.1, r10.2, s1)))) else (
lt_ (fX10_deny (1 : Int32) s0) (fun r3 =>
some (r3.1, r3.2, s1)))
noncomputable def fX10_day (p1 : Int32) (s0 : Rc) (s1 : Rc) : Int32 × Rc × Rc :=
if (fX10_outside p1 (0 : Int32) (2 : Int32)) = (0 : Int32) then (
if (fX0_canAddDay s1) = (0 : Int32) then (
lt_ (fX10_refuse (4 : Int32) s0) (fun r7 =>
(r7.1, r7.2, s1))) else (
lt_ (fX0_addDay p1 s1) (fun r5 =>
lt_ (fX10_answer (gi r5 9) s0) (fun r6 =>
(r6.1, r6.2, r5))))) else (
lt_ (fX10_refuse (1 : Int32) s0) (fun r8 =>
(r8.1, r8.2, s1)))
noncomputable def fX10_dislikes (p1 : Int32) (p2 : Int32) (s0 : Rc) (s1 : Rc) : Option (Int32 × Rc) :=
if (fX10_noFarmer p1 s0 s1) = (0 : Int32) then (
if (fX10_noFarmer p2 s0 s1) = (0 : Int32) then (
(fX0_dislike p1 p2 s1).bind (fun r6 =>
lt_ (fX10_answer r6 s0) (fun r7 =>
some (r7.1, r7.2)))) else (
lt_ (fX10_refuse (1 : Int32) s0) (fun r8 =>
some (r8.1, r8.2)))) else (
lt_ (fX10_refuse (1 : Int32) s0) (fun r3 =>
some (r3.1, r3.2)))
noncomputable def fX10_dryMillionths (p1 : Int32) (p2 : Int32) (s0 : Rc) (s1 : Rc) : Option (Int64) :=
(fX0_dryShare p1 p2 s1).bind (fun r1 =>
(fX0_rainShare p1 p2 s1).bind (fun r2 =>
lt_ (r1 + r2) (fun x3 =>
if x3 = (0 : Int64) then (
some (-1 : Int64)) else (
gd (nz64 x3) (
some ((r1 * (1000000 : Int64)) / x3))))))
noncomputable def fX10_farmer (p1 : Int32) (p2 : Int32) (s0 : Rc) (s1 : Rc) : Option (Int32 × Rc) :=
if (fX10_noFarmer p1 s0 s1) = (0 : Int32) then (
if p2 = (0 : Int32) then (
gd (inb p1 8) (
lt_ (fX10_answer (ga s1 1 p1.toNatClampNeg) s0) (fun r5 =>
some (r5.1, r5.2)))) else (
if p2 = (1 : Int32) then (
gd (inb p1 8) (
lt_ (fX10_answer (ga s1 2 p1.toNatClampNeg) s0) (fun r8 =>
some (r8.1, r8.2)))) else (
if p2 = (2 : Int32) then (
gd (inb p1 8) (
lt_ (fX10_answer (ga s1 3 p1.toNatClampNeg) s0) (fun r11 =>
some (r11.1, r11.2)))) else (
if p2 = (3 : Int32) then (
lt_ (fX10_answer (fX10_bit (fX0_hasElbow p1 s1)) s0) (fun r14 =>
some (r14.1, r14.2))) else (
if p2 = (4 : Int32) then (
gd (inb p1 8) (
if (ga s1 4 p1.toNatClampNeg) = (61 : Int32) then (
lt_ (fX10_refuse (6 : Int32) s0) (fun r19 =>
some (r19.1, r19.2))) else (
lt_ (fX10_answer (ga s1 4 p1.toNatClampNeg) s0) (fun r18 =>
some (r18.1, r18.2))))) else (
if p2 = (5 : Int32) then (
gd (inb p1 8) (
lt_ (fX10_answer (ga s1 5 p1.toNatClampNeg) s0) (fun r22 =>
some (r22.1, r22.2)))) else (
if p2 = (6 : Int32) then (
gd (inb p1 8) (
lt_ (fX10_answer (fJ13_bitCount_95d88 (gb s1 6 p1.toNatClampNeg)) s0) (fun r25 =>
some (r25.1, r25.2)))) else (
lt_ (fX10_refuse (1 : Int32) s0) (fun r26 =>
some (r26.1, r26.2)))))))))) else (
lt_ (fX10_refuse (1 : Int32) s0) (fun r27 =>
some (r27.1, r27.2)))
noncomputable def fX10_fault (p1 : Int32) (s0 : Rc) (s1 : Rc) : Int32 :=
if p1 = (0 : Int32) then (
(gi s1 12)) else (
if p1 = (1 : Int32) then (
(gi s1 13)) else (
(-1 : Int32)))
noncomputable def fX10_feed (p1 : Int32) (p2 : Int32) (p3 : Int32) (p4 : Int32) (p5 : Int32) (s0 : Rc) (s1 : Rc) : Option (Int32 × Rc) :=
if ((gi s1 2) + (20 : Int32)) ≤ (900 : Int32) then (
(fX8_append p1 s1).bind (fun r2 =>
(fX8_append p2 r2).bind (fun r3 =>
(fX8_append p3 r3).bind (fun r4 =>
(fX8_append p4 r4).bind (fun r5 =>
(fX8_append p5 r5).bind (fun r6 =>
some ((gi r6 2), r6))))))) else (
some ((-1 : Int32), s1))
noncomputable def fX10_feel (p1 : Int32) (s0 : Rc) (s1 : Rc) (s2 : Rc) : Option (Int32 × Rc × Rc × Rc) :=
if (fX10_outside p1 (0 : Int32) (9999 : Int32)) = (0 : Int32) then (
lt_ (fX2_begin p1 s2) (fun r3 =>
(fX0_feelBy s1 r3).bind (fun r4 =>
(fX0_allTwinges r4.1).bind (fun r5 =>
lt_ (fX10_answer r5 s0) (fun r6 =>
some (r6.1, r6.2, r4.1, r4.2)))))) else (
lt_ (fX10_refuse (1 : Int32) s0) (fun r7 =>
some (r7.1, r7.2, s1, s2)))
noncomputable def fX10_fever_L4 (s1 : Rc) (q4 : Int32 × Int32) : Option ((Int32 × Int32) ⊕ Int32) :=
if (gi s1 9) ≤ q4.2 then (
some (.inr q4.1)) else (
if q4.1 = (-1 : Int32) then (
some (.inl (q4.2, (q4.2 + (1 : Int32))))) else (
(fX0_twingesOn q4.2 s1).bind (fun r3 =>
(fX0_twingesOn q4.1 s1).bind (fun r4 =>
if r3 ≤ r4 then (
some (.inl (q4.1, (q4.2 + (1 : Int32))))) else (
some (.inl (q4.2, (q4.2 + (1 : Int32)))))))))
noncomputable def fX10_fever (s0 : Rc) (s1 : Rc) : Option (Int32 × Rc) :=
(loopF (fX10_fever_L4 s1) ((-1 : Int32), (0 : Int32))).bind (fun o4 =>
lt_ (fX10_answerIfAny o4 s0) (fun r6 =>
some (r6.1, r6.2)))
noncomputable def fX10_fewest (p1 : Int32) (s0 : Rc) (s1 : Rc) : Option (Int32 × Rc) :=
if (fX10_outside p1 (0 : Int32) (60 : Int32)) = (0 : Int32) then (
(fX0_fewestKnees p1 s1).bind (fun r3 =>
lt_ (fX10_answerIfAny r3 s0) (fun r4 =>
some (r4.1, r4.2)))) else (
lt_ (fX10_refuse (1 : Int32) s0) (fun r5 =>
some (r5.1, r5.2)))
noncomputable def fX10_fits (p1 : Int32) (p2 : Int32) (s0 : Rc) (s1 : Rc) : Option (Int32 × Rc) :=
if (fX10_noFarmer p1 s0 s1) = (0 : Int32) then (
if (fX10_outside p2 (-3 : Int32) (3 : Int32)) = (0 : Int32) then (
(fX0_fitsBy p1 p2 s1).bind (fun r6 =>
lt_ (fX10_answer r6 s0) (fun r7 =>
some (r7.1, r7.2)))) else (
lt_ (fX10_refuse (1 : Int32) s0) (fun r8 =>
some (r8.1, r8.2)))) else (
lt_ (fX10_refuse (1 : Int32) s0) (fun r3 =>
some (r3.1, r3.2)))
noncomputable def fX10_flips (p1 : Int32) (s0 : Rc) (s1 : Rc) : Option (Int32 × Rc) :=
if (fX10_noToldDay p1) = (0 : Int32) then (
(fX0_fewestTurned p1 s1).bind (fun r3 =>
lt_ (fX10_answerIfAny r3 s0) (fun r4 =>
some (r4.1, r4.2)))) else (
lt_ (fX10_refuse (1 : Int32) s0) (fun r5 =>
some (r5.1, r5.2)))
noncomputable def fX10_foe_L18 (p1 : Int32) (s1 : Rc) (q18 : Int32 × Int32) : Option ((Int32 × Int32) ⊕ Int32) :=
if (gi s1 8) ≤ q18.2 then (
some (.inr q18.1)) else (
(fX0_dislike p1 q18.2 s1).bind (fun r4 =>
(fX0_dislike p1 q18.1 s1).bind (fun r5 =>
if r4 ≤ r5 then (
some (.inl (q18.1, (q18.2 + (1 : Int32))))) else (
some (.inl (q18.2, (q18.2 + (1 : Int32))))))))
noncomputable def fX10_foe (p1 : Int32) (s0 : Rc) (s1 : Rc) : Option (Int32 × Rc) :=
if (fX10_noFarmer p1 s0 s1) = (0 : Int32) then (
(loopF (fX10_foe_L18 p1 s1) (p1, (0 : Int32))).bind (fun o18 =>
if o18 = p1 then (
lt_ (fX10_refuse (6 : Int32) s0) (fun r9 =>
some (r9.1, r9.2))) else (
lt_ (fX10_answer o18 s0) (fun r8 =>
some (r8.1, r8.2))))) else (
lt_ (fX10_refuse (1 : Int32) s0) (fun r10 =>
some (r10.1, r10.2)))
noncomputable def fX10_tellFraction (p1 : Int64) (p2 : Int64) (s0 : Rc) : Option (Rc) :=
(fX10_commonDivisor p1 p2).bind (fun r1 =>
if r1 ≤ (0 : Int64) then (
some s0) else (
gd (nz64 r1) (
lt_ (sl s0 17 (p1 / r1)) (fun s0_4 =>
lt_ (sl s0_4 18 (p2 / r1)) (fun s0_5 =>
some s0_5)))))
noncomputable def fX10_hay_L51 (p1 : Int32) (p2 : Int32) (p3 : Int32) (s0 : Rc) (s1 : Rc) (q51 : Int64 × Int64 × Int32) : Option ((Int64 × Int64 × Int32) ⊕ ((Unit) ⊕ (Int64 × Int64))) :=
if p2 ≤ q51.2.2 then (
some (.inr (.inr (q51.1, q51.2.1)))) else (
(fX10_dryMillionths (p1 + q51.2.2) p3 s0 s1).bind (fun r15 =>
if r15 = (-1 : Int64) then (
some (.inr (.inl ()))) else (
lt_ (q51.1 * r15) (fun x17 =>
lt_ (q51.2.1 * (1000000 : Int64)) (fun x18 =>
some (.inl (x17, x18, (q51.2.2 + (1 : Int32)))))))))
noncomputable def fX10_hay (p1 : Int32) (p2 : Int32) (p3 : Int32) (s0 : Rc) (s1 : Rc) : Option (Int32 × Rc) :=
if (fX10_noToldDay p1) = (0 : Int32) then (
if (fX10_outside p2 (1 : Int32) (3 : Int32)) = (0 : Int32) then (
if (62 : Int32) < ((p1 + p2) - (1 : Int32)) then (
lt_ (fX10_deny (1 : Int32) s0) (fun r10 =>
some (r10.1, r10.2))) else (
if (fX10_outside p3 (1 : Int32) (15 : Int32)) = (0 : Int32) then (
(loopF (fX10_hay_L51 p1 p2 p3 s0 s1) ((1 : Int64), (1 : Int64), (0 : Int32))).bind (fun o51 =>
Sum.elim (fun o51a =>
lt_ (fX10_deny (7 : Int32) s0) (fun r19 =>
some (r19.1, r19.2))) (fun o51b =>
(fX10_tellFraction o51b.1 o51b.2 s0).bind (fun r21 =>
lt_ (fX10_allow r21) (fun r22 =>
some (r22.1, r22.2)))) o51)) else (
lt_ (fX10_deny (1 : Int32) s0) (fun r24 =>
some (r24.1, r24.2))))) else (
lt_ (fX10_deny (1 : Int32) s0) (fun r7 =>
some (r7.1, r7.2)))) else (
lt_ (fX10_deny (1 : Int32) s0) (fun r3 =>
some (r3.1, r3.2)))
noncomputable def fX10_kept (s0 : Rc) (s1 : Rc) : Option (Int32 × Rc) :=
(fX0_keptUnder (gi s1 12) (0 : Int32) s1).bind (fun r1 =>
lt_ (fX10_answer r1 s0) (fun r2 =>
some (r2.1, r2.2)))
noncomputable def fX10_keptBy (p1 : Int32) (s0 : Rc) (s1 : Rc) : Option (Int32 × Rc) :=
if (fX10_outside p1 (0 : Int32) (3 : Int32)) = (0 : Int32) then (
(fX0_keptUnder p1 (0 : Int32) s1).bind (fun r3 =>
lt_ (fX10_answer r3 s0) (fun r4 =>
some (r4.1, r4.2)))) else (
lt_ (fX10_refuse (1 : Int32) s0) (fun r5 =>
some (r5.1, r5.2)))
noncomputable def fX10_lag_J48 (p1 : Int32) (s1 : Rc) (q18 : Int32 × Int32) (y48_2 : Int32) : Option ((Int32 × Int32) ⊕ Int32) :=
(fX0_fitsBy p1 q18.2 s1).bind (fun r3 =>
(fX0_fitsBy p1 y48_2 s1).bind (fun r4 =>
if r3 ≤ r4 then (
some (.inl (y48_2, (q18.2 + (1 : Int32))))) else (
some (.inl (q18.2, (q18.2 + (1 : Int32)))))))
noncomputable def fX10_lag_L18 (p1 : Int32) (s1 : Rc) (q18 : Int32 × Int32) : Option ((Int32 × Int32) ⊕ Int32) :=
if (3 : Int32) < q18.2 then (
some (.inr q18.1)) else (
(fX0_fitsBy p1 (-q18.2) s1).bind (fun r7 =>
(fX0_fitsBy p1 q18.1 s1).bind (fun r8 =>
if r7 ≤ r8 then (
fX10_lag_J48 p1 s1 q18 q18.1) else (
lt_ (-q18.2) (fun x10 =>
fX10_lag_J48 p1 s1 q18 x10)))))
noncomputable def fX10_lag (p1 : Int32) (s0 : Rc) (s1 : Rc) : Option (Int32 × Rc) :=
if (fX10_noFarmer p1 s0 s1) = (0 : Int32) then (
(loopF (fX10_lag_L18 p1 s1) ((0 : Int32), (1 : Int32))).bind (fun o18 =>
lt_ (fX10_answer o18 s0) (fun r11 =>
some (r11.1, r11.2)))) else (
lt_ (fX10_refuse (1 : Int32) s0) (fun r12 =>
some (r12.1, r12.2)))
noncomputable def fX10_noDay (p1 : Int32) (s0 : Rc) (s1 : Rc) : Int32 :=
if p1 < (0 : Int32) then (
(1 : Int32)) else (
if p1 < (gi s1 9) then (
(0 : Int32)) else (
(1 : Int32)))
noncomputable def fX10_learn (p1 : Int32) (s0 : Rc) (s1 : Rc) : Option (Int32 × Rc × Rc) :=
if (fX10_noDay p1 s0 s1) = (0 : Int32) then (
(fX0_learnOf p1 s1).bind (fun r3 =>
lt_ (fX10_answer r3.1 s0) (fun r4 =>
some (r4.1, r4.2, r3.2)))) else (
lt_ (fX10_refuse (1 : Int32) s0) (fun r5 =>
some (r5.1, r5.2, s1)))
noncomputable def fX10_lie (p1 : Int32) (p2 : Int32) (s0 : Rc) (s1 : Rc) : Option (Int32 × Rc × Rc) :=
if (fX10_noFarmer p1 s0 s1) = (0 : Int32) then (
if (fX10_noDay p2 s0 s1) = (0 : Int32) then (
(fX0_turn p1 p2 s1).bind (fun r6 =>
(fX0_feltOn p1 p2 r6).bind (fun r7 =>
lt_ (fX10_answer r7 s0) (fun r8 =>
some (r8.1, r8.2, r6))))) else (
lt_ (fX10_refuse (1 : Int32) s0) (fun r9 =>
some (r9.1, r9.2, s1)))) else (
lt_ (fX10_refuse (1 : Int32) s0) (fun r3 =>
some (r3.1, r3.2, s1)))
noncomputable def fX10_lies_J67 (s1 : Rc) (q19 : Int32 × Int32) (z67_0 : Int32) (z67_1 : Int32) : Option ((Int32 × Int32) ⊕ Int32) :=
if z67_1 = z67_0 then (
(fX0_tippersOf q19.2 s1).bind (fun r4 =>
lt_ (q19.1 + (fJ6_bitCount_0f7a4 r4)) (fun x5 =>
some (.inl (x5, (q19.2 + (1 : Int32))))))) else (
some (.inl (q19.1, (q19.2 + (1 : Int32)))))
noncomputable def fX10_lies_J54 (p1 : Int32) (s1 : Rc) (q19 : Int32 × Int32) (z54_0 : Int32) : Option ((Int32 × Int32) ⊕ Int32) :=
if p1 = (0 : Int32) then (
fX10_lies_J67 s1 q19 (1 : Int32) z54_0) else (
fX10_lies_J67 s1 q19 (0 : Int32) z54_0)
noncomputable def fX10_lies_L19 (p1 : Int32) (s1 : Rc) (q19 : Int32 × Int32) : Option ((Int32 × Int32) ⊕ Int32) :=
if (gi s1 9) ≤ q19.2 then (
some (.inr q19.1)) else (
(fX0_verdictOf q19.2 s1).bind (fun r8 =>
if r8 = (fX0_wetOn q19.2 s1) then (
fX10_lies_J54 p1 s1 q19 (1 : Int32)) else (
fX10_lies_J54 p1 s1 q19 (0 : Int32))))
noncomputable def fX10_lies (p1 : Int32) (s0 : Rc) (s1 : Rc) : Option (Int32 × Rc) :=
if (fX10_outside p1 (0 : Int32) (1 : Int32)) = (0 : Int32) then (
(loopF (fX10_lies_L19 p1 s1) ((0 : Int32), (0 : Int32))).bind (fun o19 =>
lt_ (fX10_answer o19 s0) (fun r10 =>
some (r10.1, r10.2)))) else (
lt_ (fX10_refuse (1 : Int32) s0) (fun r11 =>
some (r11.1, r11.2)))
noncomputable def fX10_live (p1 : Int32) (s0 : Rc) (s1 : Rc) (s2 : Rc) (s3 : Rc) (s4 : Rc) : Option (Int32 × Rc × Rc × Rc × Rc) :=
if (fX10_outside p1 (0 : Int32) (9999 : Int32)) = (0 : Int32) then (
if (gi s2 7) = (0 : Int32) then (
lt_ (fX10_refuse (6 : Int32) s0) (fun r6 =>
some (r6.1, r6.2, s1, s3, s4))) else (
(fX3_run p1 s3 s4 s1 s2).bind (fun r4 =>
lt_ (fX10_answer (gi r4.1 2) s0) (fun r5 =>
some (r5.1, r5.2, r4.2.2, r4.1, r4.2.1))))) else (
lt_ (fX10_refuse (1 : Int32) s0) (fun r7 =>
some (r7.1, r7.2, s1, s3, s4)))
noncomputable def fX10_lived (p1 : Int32) (s0 : Rc) (s1 : Rc) : Int32 × Rc :=
if (fX10_outside p1 (0 : Int32) (3 : Int32)) = (0 : Int32) then (
if (gi s1 2) = (-1 : Int32) then (
lt_ (fX10_refuse (6 : Int32) s0) (fun r11 =>
(r11.1, r11.2))) else (
if p1 = (0 : Int32) then (
lt_ (fX10_answer (gi s1 3) s0) (fun r5 =>
(r5.1, r5.2))) else (
if p1 = (1 : Int32) then (
lt_ (fX10_answer (gi s1 4) s0) (fun r7 =>
(r7.1, r7.2))) else (
if p1 = (2 : Int32) then (
lt_ (fX10_answer (gi s1 5) s0) (fun r9 =>
(r9.1, r9.2))) else (
lt_ (fX10_answer (fX10_bit (gi s1 6)) s0) (fun r10 =>
(r10.1, r10.2))))))) else (
lt_ (fX10_refuse (1 : Int32) s0) (fun r12 =>
(r12.1, r12.2)))
noncomputable def fX10_longestRow_L2 (q2 : Int64 × Int32) : Option ((Int64 × Int32) ⊕ Int32) :=
if q2.1 = (0 : Int64) then (
some (.inr q2.2)) else (
if (64 : Int32) ≤ q2.2 then (
some (.inr q2.2)) else (
lt_ (q2.1 &&& ((q2.1.toUInt64 >>> ((1 : Int32).toInt64.toUInt64 &&& Int64.toUInt64 63)).toInt64)) (fun x3 =>
some (.inl (x3, (q2.2 + (1 : Int32)))))))
noncomputable def fX10_longestRow (p1 : Int64) : Option (Int32) :=
(loopF (fX10_longestRow_L2) (p1, (0 : Int32))).bind (fun o2 =>
some o2)
noncomputable def fX10_mean_L60 (p1 : Int32) (p2 : Int32) (s1 : Rc) (s2 : Rc) (q60 : Int64 × Int32 × Rc × Rc × Rc) : Option ((Int64 × Int32 × Rc × Rc × Rc) ⊕ (Int64 × Rc × Rc × Rc)) :=
if p2 ≤ q60.2.1 then (
some (.inr (q60.1, q60.2.2.1, q60.2.2.2.1, q60.2.2.2.2))) else (
(fX0_copyFrom q60.2.2.1 s1).bind (fun r12 =>
(fX3_run (p1 + q60.2.1) q60.2.2.2.1 q60.2.2.2.2 r12 s2).bind (fun r13 =>
(fX0_keptUnder (gi r13.2.2 12) (0 : Int32) r13.2.2).bind (fun r14 =>
lt_ (q60.1 + r14.toInt64) (fun x15 =>
some (.inl (x15, (q60.2.1 + (1 : Int32)), r13.2.2, r13.1, r13.2.1)))))))
noncomputable def fX10_mean (p1 : Int32) (p2 : Int32) (s0 : Rc) (s1 : Rc) (s2 : Rc) (s3 : Rc) (s4 : Rc) (s5 : Rc) : Option (Int32 × Rc × Rc × Rc × Rc) :=
if (fX10_outside p1 (0 : Int32) (9999 : Int32)) = (0 : Int32) then (
if (fX10_outside p2 (1 : Int32) (20 : Int32)) = (0 : Int32) then (
if ((p1 + p2) - (1 : Int32)) ≤ (9999 : Int32) then (
if (gi s2 7) = (0 : Int32) then (
lt_ (fX10_deny (6 : Int32) s0) (fun r19 =>
some (r19.1, r19.2, s3, s4, s5))) else (
(loopF (fX10_mean_L60 p1 p2 s1 s2) ((0 : Int64), (0 : Int32), s3, s4, s5)).bind (fun o60 =>
(fX10_tellFraction o60.1 p2.toInt64 s0).bind (fun r16 =>
lt_ (fX10_allow r16) (fun r17 =>
some (r17.1, r17.2, o60.2.1, o60.2.2.1, o60.2.2.2)))))) else (
lt_ (fX10_deny (1 : Int32) s0) (fun r21 =>
some (r21.1, r21.2, s3, s4, s5)))) else (
lt_ (fX10_deny (1 : Int32) s0) (fun r7 =>
some (r7.1, r7.2, s3, s4, s5)))) else (
lt_ (fX10_deny (1 : Int32) s0) (fun r3 =>
some (r3.1, r3.2, s3, s4, s5)))
noncomputable def fX10_mood_L18 (p1 : Int32) (s1 : Rc) (q18 : Int32 × Int32) : Option ((Int32 × Int32) ⊕ Int32) :=
if (gi s1 8) ≤ q18.2 then (
some (.inr q18.1)) else (
(fX0_dislike p1 q18.2 s1).bind (fun r4 =>
lt_ (q18.1 + r4) (fun x5 =>
some (.inl (x5, (q18.2 + (1 : Int32)))))))
noncomputable def fX10_mood (p1 : Int32) (s0 : Rc) (s1 : Rc) : Option (Int32 × Rc) :=
if (fX10_noFarmer p1 s0 s1) = (0 : Int32) then (
(loopF (fX10_mood_L18 p1 s1) ((0 : Int32), (0 : Int32))).bind (fun o18 =>
lt_ (fX10_answer o18 s0) (fun r6 =>
some (r6.1, r6.2)))) else (
lt_ (fX10_refuse (1 : Int32) s0) (fun r7 =>
some (r7.1, r7.2)))
noncomputable def fX10_nextWrong_L18 (s1 : Rc) (q18 : Int32) : Option (Int32 ⊕ ((Int32) ⊕ (Unit))) :=
if (gi s1 9) ≤ q18 then (
some (.inr (.inr ()))) else (
(fX0_verdictOf q18 s1).bind (fun r4 =>
if r4 = ((1 : Int32) - (fX0_wetOn q18 s1)) then (
some (.inr (.inl q18))) else (
some (.inl (q18 + (1 : Int32))))))
noncomputable def fX10_nextWrong (p1 : Int32) (s0 : Rc) (s1 : Rc) : Option (Int32 × Rc) :=
if (fX10_outside p1 (0 : Int32) (59 : Int32)) = (0 : Int32) then (
(loopF (fX10_nextWrong_L18 s1) p1).bind (fun o18 =>
Sum.elim (fun o18a =>
lt_ (fX10_answer o18a s0) (fun r6 =>
some (r6.1, r6.2))) (fun o18b =>
lt_ (fX10_refuse (6 : Int32) s0) (fun r7 =>
some (r7.1, r7.2))) o18)) else (
lt_ (fX10_refuse (1 : Int32) s0) (fun r8 =>
some (r8.1, r8.2)))
noncomputable def fX10_noSpan (p1 : Int32) (p2 : Int32) : Int32 :=
if (fX10_noToldDay p1) = (0 : Int32) then (
if (fX10_noToldDay p2) = (0 : Int32) then (
if p1 ≤ p2 then (
(0 : Int32)) else (
(1 : Int32))) else (
(1 : Int32))) else (
(1 : Int32))
noncomputable def fX10_noTray (p1 : Int32) : Int32 :=
(fX10_outside p1 (0 : Int32) (3 : Int32))
noncomputable def fX10_odds (p1 : Int32) (p2 : Int32) (s0 : Rc) (s1 : Rc) : Option (Int32 × Rc) :=
if (fX10_noToldDay p1) = (0 : Int32) then (
if (fX10_outside p2 (1 : Int32) (15 : Int32)) = (0 : Int32) then (
(fX0_rainShare p1 p2 s1).bind (fun r7 =>
(fX0_dryShare p1 p2 s1).bind (fun r8 =>
lt_ (r7 + r8) (fun x9 =>
if x9 = (0 : Int64) then (
lt_ (fX10_deny (7 : Int32) s0) (fun r14 =>
some (r14.1, r14.2))) else (
(fX10_tellFraction r7 x9 s0).bind (fun r11 =>
lt_ (fX10_allow r11) (fun r12 =>
some (r12.1, r12.2)))))))) else (
lt_ (fX10_deny (1 : Int32) s0) (fun r16 =>
some (r16.1, r16.2)))) else (
lt_ (fX10_deny (1 : Int32) s0) (fun r3 =>
some (r3.1, r3.2)))
noncomputable def fX10_placeProblem (p1 : Int32) (p2 : Int32) (s0 : Rc) (s1 : Rc) : Option (Int32) :=
if (fX10_noTray p1) = (0 : Int32) then (
(fX9_isMissing p1 s1).bind (fun r3 =>
if r3 = (0 : Int32) then (
(fX9_hasPlaces p1 p2 (1 : Int32) s1).bind (fun r6 =>
if r6 = (0 : Int32) then (
some (3 : Int32)) else (
some (0 : Int32)))) else (
some (2 : Int32)))) else (
some (1 : Int32))
noncomputable def fX10_pour (p1 : Int32) (p2 : Int32) (p3 : Int32) (p4 : Int32) (p5 : Int32) (s0 : Rc) (s1 : Rc) : Option (Int32 × Rc × Rc) :=
if (fX10_noTray p1) = (0 : Int32) then (
if (fX10_noTray p3) = (0 : Int32) then (
if p2 < (0 : Int32) then (
lt_ (fX10_deny (1 : Int32) s0) (fun r10 =>
some (r10.1, r10.2, s1))) else (
if p4 < (0 : Int32) then (
lt_ (fX10_deny (1 : Int32) s0) (fun r13 =>
some (r13.1, r13.2, s1))) else (
if (0 : Int32) ≤ p5 then (
(fX9_isMissing p1 s1).bind (fun r16 =>
if r16 = (0 : Int32) then (
(fX9_isMissing p3 s1).bind (fun r21 =>
if r21 = (0 : Int32) then (
gd (inb p1 4) (
gd (inb p3 4) (
if (ga s1 1 p1.toNatClampNeg) = (ga s1 1 p3.toNatClampNeg) then (
(fX9_hasPlaces p1 p2 p5 s1).bind (fun r27 =>
if r27 = (0 : Int32) then (
lt_ (fX10_deny (3 : Int32) s0) (fun r30 =>
some (r30.1, r30.2, s1))) else (
(fX9_hasPlaces p3 p4 p5 s1).bind (fun r32 =>
if r32 = (0 : Int32) then (
lt_ (fX10_deny (3 : Int32) s0) (fun r38 =>
some (r38.1, r38.2, s1))) else (
(fX9_move p1 p2 p3 p4 p5 s1).bind (fun r35 =>
lt_ (fX10_allow s0) (fun r36 =>
some (r36.1, r36.2, r35)))))))) else (
lt_ (fX10_deny (8 : Int32) s0) (fun r40 =>
some (r40.1, r40.2, s1)))))) else (
lt_ (fX10_deny (2 : Int32) s0) (fun r42 =>
some (r42.1, r42.2, s1))))) else (
lt_ (fX10_deny (2 : Int32) s0) (fun r19 =>
some (r19.1, r19.2, s1))))) else (
lt_ (fX10_deny (1 : Int32) s0) (fun r44 =>
some (r44.1, r44.2, s1)))))) else (
lt_ (fX10_deny (1 : Int32) s0) (fun r7 =>
some (r7.1, r7.2, s1)))) else (
lt_ (fX10_deny (1 : Int32) s0) (fun r3 =>
some (r3.1, r3.2, s1)))
noncomputable def fX10_quiet (p1 : Int32) (s0 : Rc) (s1 : Rc) : Option (Int32 × Rc) :=
if (fX10_noFarmer p1 s0 s1) = (0 : Int32) then (
gd (inb p1 8) (
(fX10_longestRow ((fX0_daysThere s1) &&& ((gb s1 6 p1.toNatClampNeg) ^^^ (-1 : Int64)))).bind (fun r4 =>
lt_ (fX10_answer r4 s0) (fun r5 =>
some (r5.1, r5.2))))) else (
lt_ (fX10_refuse (1 : Int32) s0) (fun r6 =>
some (r6.1, r6.2)))
noncomputable def fX10_read (p1 : Int32) (p2 : Int32) (s0 : Rc) (s1 : Rc) : Option (Int64 × Rc) :=
(fX10_placeProblem p1 p2 s0 s1).bind (fun r1 =>
if r1 = (0 : Int32) then (
lt_ (si s0 16 (0 : Int32)) (fun s0_3 =>
(fX9_at p1 p2 s1).bind (fun r4 =>
some (r4, s0_3)))) else (
lt_ (fX10_refuse r1 s0) (fun r5 =>
some (r5.1.toInt64, r5.2))))
noncomputable def fX10_right (p1 : Int32) (s0 : Rc) (s1 : Rc) : Option (Int32 × Rc) :=
if (fX10_noFarmer p1 s0 s1) = (0 : Int32) then (
(fX0_rightDays p1 s1).bind (fun r3 =>
lt_ (fX10_answer (fJ13_bitCount_95d88 r3) s0) (fun r4 =>
some (r4.1, r4.2)))) else (
lt_ (fX10_refuse (1 : Int32) s0) (fun r5 =>
some (r5.1, r5.2)))
noncomputable def fX10_rival_L18 (p1 : Int32) (s1 : Rc) (q18 : Int32 × Int32) : Option ((Int32 × Int32) ⊕ Int32) :=
if (gi s1 8) ≤ q18.2 then (
some (.inr q18.1)) else (
if q18.2 = p1 then (
some (.inl (q18.1, (q18.2 + (1 : Int32))))) else (
if q18.1 = (-1 : Int32) then (
some (.inl (q18.2, (q18.2 + (1 : Int32))))) else (
(fX0_twingesShared p1 q18.2 s1).bind (fun r6 =>
(fX0_twingesShared p1 q18.1 s1).bind (fun r7 =>
if r6 ≤ r7 then (
some (.inl (q18.1, (q18.2 + (1 : Int32))))) else (
some (.inl (q18.2, (q18.2 + (1 : Int32))))))))))
noncomputable def fX10_rival (p1 : Int32) (s0 : Rc) (s1 : Rc) : Option (Int32 × Rc) :=
if (fX10_noFarmer p1 s0 s1) = (0 : Int32) then (
(loopF (fX10_rival_L18 p1 s1) ((-1 : Int32), (0 : Int32))).bind (fun o18 =>
lt_ (fX10_answerIfAny o18 s0) (fun r9 =>
some (r9.1, r9.2)))) else (
lt_ (fX10_refuse (1 : Int32) s0) (fun r10 =>
some (r10.1, r10.2)))
noncomputable def fX10_says (p1 : Int32) (s0 : Rc) (s1 : Rc) : Option (Int32 × Rc) :=
if (fX10_noToldDay p1) = (0 : Int32) then (
(fX0_verdictOf p1 s1).bind (fun r3 =>
lt_ (fX10_answerIfAny r3 s0) (fun r4 =>
some (r4.1, r4.2)))) else (
lt_ (fX10_refuse (1 : Int32) s0) (fun r5 =>
some (r5.1, r5.2)))
noncomputable def fX10_season (p1 : Int32) (s0 : Rc) (s1 : Rc) (s2 : Rc) (s3 : Rc) (s4 : Rc) (s5 : Rc) : Option (Int32 × Rc × Rc × Rc × Rc × Rc) :=
if (fX10_outside p1 (0 : Int32) (gi s4 2)) = (0 : Int32) then (
if p1 ≤ (300 : Int32) then (
(fX6_isRead p1 s5 s4 s3 s1).bind (fun r5 =>
lt_ (si r5.2.2.1 2 (0 : Int32)) (fun s4_7 =>
if r5.1 = (0 : Int32) then (
lt_ (fX10_refuse (9 : Int32) s0) (fun r11 =>
some (r11.1, r11.2, s2, r5.2.2.2, s4_7, r5.2.1))) else (
(fX5_copyFrom s2 r5.2.2.2).bind (fun r9 =>
lt_ (fX10_answer (gi r9 6) s0) (fun r10 =>
some (r10.1, r10.2, r9, r5.2.2.2, s4_7, r5.2.1))))))) else (
lt_ (fX10_refuse (1 : Int32) s0) (fun r12 =>
some (r12.1, r12.2, s2, s3, s4, s5)))) else (
lt_ (fX10_refuse (1 : Int32) s0) (fun r3 =>
some (r3.1, r3.2, s2, s3, s4, s5)))
noncomputable def fX10_seatAt (p1 : Int32) (s0 : Rc) (s1 : Rc) : Option (Int32 × Rc) :=
if p1 < (0 : Int32) then (
lt_ (fX10_refuse (6 : Int32) s0) (fun r2 =>
some (r2.1, r2.2))) else (
if p1 < (gi s1 2) then (
gd (inb p1 8) (
lt_ (fX10_answer (ga s1 1 p1.toNatClampNeg) s0) (fun r5 =>
some (r5.1, r5.2)))) else (
lt_ (fX10_refuse (6 : Int32) s0) (fun r6 =>
some (r6.1, r6.2))))
noncomputable def fX10_seats (s0 : Rc) (s1 : Rc) (s2 : Rc) : Option (Int32 × Rc × Rc) :=
if (gi s1 8) = (0 : Int32) then (
lt_ (fX10_refuse (6 : Int32) s0) (fun r4 =>
some (r4.1, r4.2, s2))) else (
(fX7_seat s2 s1).bind (fun r2 =>
lt_ (fX10_answer r2.1 s0) (fun r3 =>
some (r3.1, r3.2, r2.2))))
noncomputable def fX10_should (p1 : Int32) (p2 : Int32) (s0 : Rc) (s1 : Rc) : Option (Int32 × Rc) :=
if (fX10_noFarmer p1 s0 s1) = (0 : Int32) then (
if (fX10_noDay p2 s0 s1) = (0 : Int32) then (
(fX0_dueDays p1 s1).bind (fun r6 =>
lt_ (fX10_answer ((((r6.toUInt64 >>> (p2.toInt64.toUInt64 &&& Int64.toUInt64 63)).toInt64) &&& (1 : Int64)).toInt32) s0) (fun r7 =>
some (r7.1, r7.2)))) else (
lt_ (fX10_refuse (1 : Int32) s0) (fun r8 =>
some (r8.1, r8.2)))) else (
lt_ (fX10_refuse (1 : Int32) s0) (fun r3 =>
some (r3.1, r3.2)))
noncomputable def fX10_silent_L4 (s1 : Rc) (q4 : Int64 × Int32) : Option ((Int64 × Int32) ⊕ Int64) :=
if (gi s1 8) ≤ q4.2 then (
some (.inr q4.1)) else (
(fX0_toldDays q4.2 s1).bind (fun r2 =>
lt_ (q4.1 ||| r2) (fun x3 =>
some (.inl (x3, (q4.2 + (1 : Int32)))))))
noncomputable def fX10_silent (s0 : Rc) (s1 : Rc) : Option (Int32 × Rc) :=
(loopF (fX10_silent_L4 s1) ((0 : Int64), (0 : Int32))).bind (fun o4 =>
lt_ (fX10_answer ((gi s1 9) - (fJ13_bitCount_95d88 o4)) s0) (fun r4 =>
some (r4.1, r4.2)))
noncomputable def fX10_span_L19 (p2 : Int32) (s1 : Rc) (q19 : Int32 × Int32) : Option ((Int32 × Int32) ⊕ Int32) :=
if p2 < q19.2 then (
some (.inr q19.1)) else (
(fX0_verdictOf q19.2 s1).bind (fun r4 =>
if r4 = (1 : Int32) then (
some (.inl ((q19.1 + (1 : Int32)), (q19.2 + (1 : Int32))))) else (
some (.inl (q19.1, (q19.2 + (1 : Int32)))))))
noncomputable def fX10_span (p1 : Int32) (p2 : Int32) (s0 : Rc) (s1 : Rc) : Option (Int32 × Rc) :=
if (fX10_noSpan p1 p2) = (0 : Int32) then (
(loopF (fX10_span_L19 p2 s1) ((0 : Int32), p1)).bind (fun o19 =>
lt_ (fX10_answer o19 s0) (fun r6 =>
some (r6.1, r6.2)))) else (
lt_ (fX10_refuse (1 : Int32) s0) (fun r7 =>
some (r7.1, r7.2)))
noncomputable def fX10_spell_J49 (s0 : Rc) (z49_0 : Int64) : Option (Int32 × Rc) :=
(fX10_longestRow z49_0).bind (fun r1 =>
lt_ (fX10_answer r1 s0) (fun r2 =>
some (r2.1, r2.2)))
noncomputable def fX10_spell (p1 : Int32) (s0 : Rc) (s1 : Rc) : Option (Int32 × Rc) :=
if (fX10_outside p1 (0 : Int32) (1 : Int32)) = (0 : Int32) then (
if p1 = (0 : Int32) then (
fX10_spell_J49 s0 ((fX0_daysThere s1) &&& ((gl s1 10) ^^^ (-1 : Int64)))) else (
fX10_spell_J49 s0 (gl s1 10))) else (
lt_ (fX10_refuse (1 : Int32) s0) (fun r6 =>
some (r6.1, r6.2)))
noncomputable def fX10_stairs_L80 (p2 : Int32) (p3 : Int32) (s1 : Rc) (s2 : Rc) (q80 : Int64 × Int32) : Option ((Int64 × Int32) ⊕ ((Unit) ⊕ (Int64))) :=
if (gi s1 9) ≤ q80.2 then (
some (.inr (.inr q80.1))) else (
(fX9_at p2 q80.2 s2).bind (fun r16 =>
if r16 < (0 : Int64) then (
some (.inr (.inl ()))) else (
if r16 ≤ (999 : Int64) then (
if r16 < p3.toInt64 then (
some (.inl (q80.1, (q80.2 + (1 : Int32))))) else (
lt_ (q80.1 ||| ((1 : Int64) <<< (q80.2.toInt64 &&& 63))) (fun x20 =>
some (.inl (x20, (q80.2 + (1 : Int32))))))) else (
some (.inr (.inl ()))))))
noncomputable def fX10_stairs (p1 : Int32) (p2 : Int32) (p3 : Int32) (s0 : Rc) (s1 : Rc) (s2 : Rc) : Option (Int32 × Rc) :=
if (fX10_noFarmer p1 s0 s1) = (0 : Int32) then (
if (fX10_noTray p2) = (0 : Int32) then (
if (fX10_outside p3 (1 : Int32) (999 : Int32)) = (0 : Int32) then (
(fX9_isMissing p2 s2).bind (fun r9 =>
if r9 = (0 : Int32) then (
(fX9_hasPlaces p2 (0 : Int32) (gi s1 9) s2).bind (fun r12 =>
if r12 = (0 : Int32) then (
lt_ (fX10_refuse (3 : Int32) s0) (fun r25 =>
some (r25.1, r25.2))) else (
(loopF (fX10_stairs_L80 p2 p3 s1 s2) ((0 : Int64), (0 : Int32))).bind (fun o80 =>
Sum.elim (fun o80a =>
lt_ (fX10_refuse (5 : Int32) s0) (fun r21 =>
some (r21.1, r21.2))) (fun o80b =>
gd (inb p1 8) (
(fX0_dueDays p1 s1).bind (fun r23 =>
lt_ (fX10_answer (fJ13_bitCount_95d88 (((gb s1 6 p1.toNatClampNeg) &&& (r23 ^^^ (-1 : Int64))) &&& o80b)) s0) (fun r24 =>
some (r24.1, r24.2))))) o80)))) else (
lt_ (fX10_refuse (2 : Int32) s0) (fun r26 =>
some (r26.1, r26.2))))) else (
lt_ (fX10_refuse (1 : Int32) s0) (fun r27 =>
some (r27.1, r27.2)))) else (
lt_ (fX10_refuse (1 : Int32) s0) (fun r6 =>
some (r6.1, r6.2)))) else (
lt_ (fX10_refuse (1 : Int32) s0) (fun r3 =>
some (r3.1, r3.2)))
noncomputable def fX10_status (s0 : Rc) : Int32 :=
(gi s0 16)
noncomputable def fX10_streak (p1 : Int32) (s0 : Rc) (s1 : Rc) : Option (Int32 × Rc) :=
if (fX10_noFarmer p1 s0 s1) = (0 : Int32) then (
(fX0_rightDays p1 s1).bind (fun r3 =>
(fX10_longestRow r3).bind (fun r4 =>
lt_ (fX10_answer r4 s0) (fun r5 =>
some (r5.1, r5.2))))) else (
lt_ (fX10_refuse (1 : Int32) s0) (fun r6 =>
some (r6.1, r6.2)))
noncomputable def fX10_sure (p1 : Int32) (s0 : Rc) (s1 : Rc) : Option (Int32 × Rc) :=
if (fX10_noToldDay p1) = (0 : Int32) then (
(fX0_tellersOf p1 s1).bind (fun r3 =>
if r3 = (0 : Int32) then (
lt_ (fX10_refuse (6 : Int32) s0) (fun r7 =>
some (r7.1, r7.2))) else (
(fX0_leaning p1 s1).bind (fun r5 =>
lt_ (fX10_answer r5 s0) (fun r6 =>
some (r6.1, r6.2)))))) else (
lt_ (fX10_refuse (1 : Int32) s0) (fun r8 =>
some (r8.1, r8.2)))
noncomputable def fX10_tells (p1 : Int32) (p2 : Int32) (s0 : Rc) (s1 : Rc) : Option (Int32 × Rc) :=
if (fX10_noFarmer p1 s0 s1) = (0 : Int32) then (
if (fX10_noToldDay p2) = (0 : Int32) then (
(fX0_hasWord p1 p2 s1).bind (fun r6 =>
if r6 = (0 : Int32) then (
lt_ (fX10_refuse (6 : Int32) s0) (fun r12 =>
some (r12.1, r12.2))) else (
(fX0_believes p1 p2 s1).bind (fun r9 =>
lt_ (fX10_answer (fX10_bit r9) s0) (fun r11 =>
some (r11.1, r11.2)))))) else (
lt_ (fX10_refuse (1 : Int32) s0) (fun r13 =>
some (r13.1, r13.2)))) else (
lt_ (fX10_refuse (1 : Int32) s0) (fun r3 =>
some (r3.1, r3.2)))
noncomputable def fX10_tips (p1 : Int32) (s0 : Rc) (s1 : Rc) : Option (Int32 × Rc) :=
if (fX10_noToldDay p1) = (0 : Int32) then (
(fX0_tellersOf p1 s1).bind (fun r3 =>
if r3 = (0 : Int32) then (
lt_ (fX10_refuse (6 : Int32) s0) (fun r7 =>
some (r7.1, r7.2))) else (
(fX0_tippersOf p1 s1).bind (fun r5 =>
lt_ (fX10_answer r5 s0) (fun r6 =>
some (r6.1, r6.2)))))) else (
lt_ (fX10_refuse (1 : Int32) s0) (fun r8 =>
some (r8.1, r8.2)))
noncomputable def fX10_told (p1 : Int32) (s0 : Rc) (s1 : Rc) : Int32 × Rc :=
if p1 = (0 : Int32) then (
lt_ (fX10_answer (gi s1 8) s0) (fun r2 =>
(r2.1, r2.2))) else (
if p1 = (1 : Int32) then (
lt_ (fX10_answer (gi s1 9) s0) (fun r4 =>
(r4.1, r4.2))) else (
if p1 = (2 : Int32) then (
lt_ (fX10_answer (fJ13_bitCount_95d88 (gl s1 10)) s0) (fun r6 =>
(r6.1, r6.2))) else (
if p1 = (3 : Int32) then (
lt_ (fX10_answer (fJ13_bitCount_95d88 (gl s1 11)) s0) (fun r8 =>
(r8.1, r8.2))) else (
if p1 = (4 : Int32) then (
lt_ (fX10_answer (gi s1 12) s0) (fun r10 =>
(r10.1, r10.2))) else (
lt_ (fX10_refuse (1 : Int32) s0) (fun r11 =>
(r11.1, r11.2)))))))
noncomputable def fX10_toldBy (p1 : Int32) (s0 : Rc) (s1 : Rc) : Option (Int32 × Rc) :=
if (fX10_noFarmer p1 s0 s1) = (0 : Int32) then (
(fX0_toldDays p1 s1).bind (fun r3 =>
lt_ (fX10_answer (fJ13_bitCount_95d88 r3) s0) (fun r4 =>
some (r4.1, r4.2)))) else (
lt_ (fX10_refuse (1 : Int32) s0) (fun r5 =>
some (r5.1, r5.2)))
noncomputable def fX10_top (s0 : Rc) : Int64 :=
(gl s0 17)
noncomputable def fX10_tray (p1 : Int32) (p2 : Int32) (p3 : Int32) (s0 : Rc) (s1 : Rc) : Option (Int32 × Rc × Rc) :=
if (fX10_noTray p1) = (0 : Int32) then (
if (fX10_outside p2 (0 : Int32) (3 : Int32)) = (0 : Int32) then (
if (fX10_outside p3 (0 : Int32) (60 : Int32)) = (0 : Int32) then (
(fX9_lay p1 p2 p3 s1).bind (fun r11 =>
lt_ (fX10_allow s0) (fun r12 =>
some (r12.1, r12.2, r11)))) else (
lt_ (fX10_deny (1 : Int32) s0) (fun r14 =>
some (r14.1, r14.2, s1)))) else (
lt_ (fX10_deny (1 : Int32) s0) (fun r7 =>
some (r7.1, r7.2, s1)))) else (
lt_ (fX10_deny (1 : Int32) s0) (fun r3 =>
some (r3.1, r3.2, s1)))
noncomputable def fX10_truest (s0 : Rc) (s1 : Rc) : Option (Int32 × Rc) :=
(fX0_mostTrusted s1).bind (fun r1 =>
lt_ (fX10_answerIfAny r1 s0) (fun r2 =>
some (r2.1, r2.2)))
noncomputable def fX10_trust (p1 : Int32) (s0 : Rc) (s1 : Rc) : Option (Int32 × Rc) :=
if (fX10_noFarmer p1 s0 s1) = (0 : Int32) then (
(fX0_toldDays p1 s1).bind (fun r3 =>
lt_ (fJ13_bitCount_95d88 r3) (fun x4 =>
if x4 = (0 : Int32) then (
lt_ (fX10_deny (6 : Int32) s0) (fun r10 =>
some (r10.1, r10.2))) else (
(fX0_rightDays p1 s1).bind (fun r6 =>
(fX10_tellFraction ((fJ13_bitCount_95d88 r6).toInt64) x4.toInt64 s0).bind (fun r7 =>
lt_ (fX10_allow r7) (fun r8 =>
some (r8.1, r8.2)))))))) else (
lt_ (fX10_deny (1 : Int32) s0) (fun r12 =>
some (r12.1, r12.2)))
noncomputable def fX10_twinge (p1 : Int32) (p2 : Int32) (p3 : Int32) (s0 : Rc) (s1 : Rc) : Option (Int32 × Rc × Rc) :=
if (fX10_noFarmer p1 s0 s1) = (0 : Int32) then (
if (fX10_noDay p2 s0 s1) = (0 : Int32) then (
(fX0_feltOn p1 p2 s1).bind (fun r7 =>
if r7 = (fX10_bit p3) then (
lt_ (fX10_allow s0) (fun r9 =>
some (r9.1, r9.2, s1))) else (
(fX0_turn p1 p2 s1).bind (fun r11 =>
lt_ (fX10_allow s0) (fun r12 =>
some (r12.1, r12.2, r11)))))) else (
lt_ (fX10_deny (1 : Int32) s0) (fun r14 =>
some (r14.1, r14.2, s1)))) else (
lt_ (fX10_deny (1 : Int32) s0) (fun r3 =>
some (r3.1, r3.2, s1)))
noncomputable def fX10_twinges (p1 : Int32) (p2 : Int32) (s0 : Rc) (s1 : Rc) : Option (Int32 × Rc) :=
if (fX10_noFarmer p1 s0 s1) = (0 : Int32) then (
if (fX10_noDay p2 s0 s1) = (0 : Int32) then (
(fX0_feltOn p1 p2 s1).bind (fun r6 =>
lt_ (fX10_answer r6 s0) (fun r7 =>
some (r7.1, r7.2)))) else (
lt_ (fX10_refuse (1 : Int32) s0) (fun r8 =>
some (r8.1, r8.2)))) else (
lt_ (fX10_refuse (1 : Int32) s0) (fun r3 =>
some (r3.1, r3.2)))
noncomputable def fX10_useful (p1 : Int32) (s0 : Rc) (s1 : Rc) : Option (Int32 × Rc) :=
if (fX10_noFarmer p1 s0 s1) = (0 : Int32) then (
(fX0_keptUnder (gi s1 12) (0 : Int32) s1).bind (fun r3 =>
(fX0_keptUnder (gi s1 12) ((1 : Int32) <<< (p1 &&& 31)) s1).bind (fun r4 =>
lt_ (fX10_answer (r3 - r4) s0) (fun r5 =>
some (r5.1, r5.2))))) else (
lt_ (fX10_refuse (1 : Int32) s0) (fun r6 =>
some (r6.1, r6.2)))
noncomputable def fX10_warned_J64 (s0 : Rc) (z64_0 : Int64) : Option (Int32 × Rc) :=
lt_ (fX10_answer (fJ13_bitCount_95d88 z64_0) s0) (fun r1 =>
some (r1.1, r1.2))
noncomputable def fX10_warned (p1 : Int32) (s0 : Rc) (s1 : Rc) : Option (Int32 × Rc) :=
if (fX10_outside p1 (0 : Int32) (1 : Int32)) = (0 : Int32) then (
(fX0_rainDaysOfSet (((1 : Int32) <<< ((gi s1 8) &&& 31)) - (1 : Int32)) s1).bind (fun r4 =>
if p1 = (0 : Int32) then (
fX10_warned_J64 s0 ((gl s1 10) &&& r4)) else (
fX10_warned_J64 s0 ((gl s1 10) &&& (r4 ^^^ (-1 : Int64)))))) else (
lt_ (fX10_refuse (1 : Int32) s0) (fun r6 =>
some (r6.1, r6.2)))
noncomputable def fX10_weather (p1 : Int32) (s0 : Rc) (s1 : Rc) : Int32 × Rc :=
if (fX10_noDay p1 s0 s1) = (0 : Int32) then (
lt_ (fX10_answer ((fX0_wetOn p1 s1) + (((((gl s1 11).toUInt64 >>> (p1.toInt64.toUInt64 &&& Int64.toUInt64 63)).toInt64) &&& (1 : Int64)).toInt32)) s0) (fun r3 =>
(r3.1, r3.2))) else (
lt_ (fX10_refuse (1 : Int32) s0) (fun r4 =>
(r4.1, r4.2)))
noncomputable def fX10_wedding_L21 (p2 : Int32) (s1 : Rc) (q21 : Int32 × Int32) : Option ((Int32 × Int32) ⊕ Int32) :=
if p2 < q21.2 then (
some (.inr q21.1)) else (
(fX0_leaning q21.2 s1).bind (fun r5 =>
(fX0_leaning q21.1 s1).bind (fun r6 =>
if r6 ≤ r5 then (
some (.inl (q21.1, (q21.2 + (1 : Int32))))) else (
some (.inl (q21.2, (q21.2 + (1 : Int32))))))))
noncomputable def fX10_wedding (p1 : Int32) (p2 : Int32) (s0 : Rc) (s1 : Rc) : Option (Int32 × Rc) :=
if (fX10_noSpan p1 p2) = (0 : Int32) then (
lt_ (p1 + (1 : Int32)) (fun x3 =>
(loopF (fX10_wedding_L21 p2 s1) (p1, x3)).bind (fun o21 =>
lt_ (fX10_answer o21 s0) (fun r8 =>
some (r8.1, r8.2))))) else (
lt_ (fX10_refuse (1 : Int32) s0) (fun r9 =>
some (r9.1, r9.2)))
noncomputable def fX10_weigh (p1 : Int32) (p2 : Int32) (s0 : Rc) (s1 : Rc) : Option (Int32 × Rc × Rc) :=
if (fX10_noFarmer p1 s0 s1) = (0 : Int32) then (
if (fX10_outside p2 (1 : Int32) (64 : Int32)) = (0 : Int32) then (
gd (inb p1 8) (
lt_ (sa s1 5 (upd (ga s1 5) p1.toNatClampNeg p2)) (fun s1_8 =>
lt_ (fX10_allow s0) (fun r9 =>
some (r9.1, r9.2, s1_8))))) else (
lt_ (fX10_deny (1 : Int32) s0) (fun r11 =>
some (r11.1, r11.2, s1)))) else (
lt_ (fX10_deny (1 : Int32) s0) (fun r3 =>
some (r3.1, r3.2, s1)))
noncomputable def fX10_write (p1 : Int32) (p2 : Int32) (p3 : Int64) (s0 : Rc) (s1 : Rc) : Option (Int32 × Rc × Rc) :=
(fX10_placeProblem p1 p2 s0 s1).bind (fun r1 =>
if r1 = (0 : Int32) then (
(fX9_put p1 p2 p3 s1).bind (fun r3 =>
lt_ (fX10_allow s0) (fun r4 =>
some (r4.1, r4.2, r3)))) else (
lt_ (fX10_deny r1 s0) (fun r6 =>
some (r6.1, r6.2, s1))))
noncomputable def fX10_wrongs_J67 (s0 : Rc) (z67_0 : Int64) : Option (Int32 × Rc) :=
lt_ (fX10_answer (fJ13_bitCount_95d88 z67_0) s0) (fun r1 =>
some (r1.1, r1.2))
noncomputable def fX10_wrongs (p1 : Int32) (p2 : Int32) (s0 : Rc) (s1 : Rc) : Option (Int32 × Rc) :=
if (fX10_noFarmer p1 s0 s1) = (0 : Int32) then (
if (fX10_outside p2 (0 : Int32) (1 : Int32)) = (0 : Int32) then (
(fX0_dueDays p1 s1).bind (fun r7 =>
gd (inb p1 8) (
lt_ (gb s1 6 p1.toNatClampNeg) (fun x9 =>
if p2 = (0 : Int32) then (
fX10_wrongs_J67 s0 (x9 &&& (r7 ^^^ (-1 : Int64)))) else (
fX10_wrongs_J67 s0 (r7 &&& (x9 ^^^ (-1 : Int64)))))))) else (
lt_ (fX10_refuse (1 : Int32) s0) (fun r11 =>
some (r11.1, r11.2)))) else (
lt_ (fX10_refuse (1 : Int32) s0) (fun r4 =>
some (r4.1, r4.2)))
noncomputable def fX11_byteAt (p1 : Int32) (s0 : Rc) : Option (Int32) :=
if (gi s0 11) ≤ p1 then (
some (-1 : Int32)) else (
gd (inb p1 900) (
some ((ga s0 9 p1.toNatClampNeg) &&& (255 : Int32))))
noncomputable def fX11_isSmall (p1 : Int32) : Int32 :=
if p1 < (97 : Int32) then (
(0 : Int32)) else (
if (122 : Int32) < p1 then (
(0 : Int32)) else (
(1 : Int32)))
noncomputable def fX11_isDigit (p1 : Int32) : Int32 :=
if p1 < (48 : Int32) then (
(0 : Int32)) else (
if (57 : Int32) < p1 then (
(0 : Int32)) else (
(1 : Int32)))
noncomputable def fX11_ahead_L0 (q0 : Rc) : Option (Rc ⊕ Rc) :=
(fX11_byteAt (gi q0 14) q0).bind (fun r1 =>
if r1 = (32 : Int32) then (
lt_ (si q0 14 ((gi q0 14) + (1 : Int32))) (fun s0_3 =>
some (.inl s0_3))) else (
(fX11_byteAt (gi q0 14) q0).bind (fun r4 =>
if r4 = (10 : Int32) then (
lt_ (si q0 14 ((gi q0 14) + (1 : Int32))) (fun s0_6 =>
some (.inl s0_6))) else (
some (.inr q0)))))
noncomputable def fX11_ahead_L128 (q128 : Rc) : Option (Rc ⊕ Rc) :=
(fX11_byteAt (gi q128 14) q128).bind (fun r26 =>
if (fX11_isDigit r26) = (0 : Int32) then (
some (.inr q128)) else (
(fX11_byteAt (gi q128 14) q128).bind (fun r29 =>
lt_ (si q128 15 (if ((((10 : Int32) * (gi q128 15)) + r29) - (48 : Int32)) < (100000 : Int32) then ((((10 : Int32) * (gi q128 15)) + r29) - (48 : Int32)) else (100000 : Int32))) (fun s0_30 =>
lt_ (si s0_30 14 ((gi s0_30 14) + (1 : Int32))) (fun s0_31 =>
some (.inl s0_31))))))
noncomputable def fX11_ahead_L81 (q81 : Rc) : Option (Rc ⊕ Rc) :=
(fX11_byteAt (gi q81 14) q81).bind (fun r35 =>
if (fX11_isSmall r35) = (0 : Int32) then (
some (.inr q81)) else (
lt_ (si q81 14 ((gi q81 14) + (1 : Int32))) (fun s0_38 =>
some (.inl s0_38))))
noncomputable def fX11_ahead (s0 : Rc) : Option (Rc) :=
(loopF (fX11_ahead_L0) s0).bind (fun o0 =>
lt_ (si o0 13 (gi o0 14)) (fun s0_7 =>
(fX11_byteAt (gi s0_7 14) s0_7).bind (fun r8 =>
lt_ (si s0_7 15 r8) (fun s0_9 =>
if r8 = (-1 : Int32) then (
lt_ (si s0_9 12 (0 : Int32)) (fun s0_40 =>
some s0_40)) else (
if (fX11_isSmall r8) = (0 : Int32) then (
if (fX11_isDigit r8) = (0 : Int32) then (
lt_ (si s0_9 14 ((gi s0_9 14) + (1 : Int32))) (fun s0_15 =>
if r8 = (59 : Int32) then (
lt_ (si s0_15 12 (4 : Int32)) (fun s0_17 =>
some s0_17)) else (
if r8 = (60 : Int32) then (
lt_ (si s0_15 12 (4 : Int32)) (fun s0_19 =>
some s0_19)) else (
if r8 = (62 : Int32) then (
lt_ (si s0_15 12 (4 : Int32)) (fun s0_21 =>
some s0_21)) else (
if r8 = (61 : Int32) then (
lt_ (si s0_15 12 (4 : Int32)) (fun s0_24 =>
some s0_24)) else (
lt_ (si s0_15 12 (1 : Int32)) (fun s0_23 =>
some s0_23))))))) else (
lt_ (si s0_9 15 (0 : Int32)) (fun s0_25 =>
(loopF (fX11_ahead_L128) s0_25).bind (fun o128 =>
if ((gi o128 14) - (gi o128 13)) ≤ (4 : Int32) then (
lt_ (si o128 12 (3 : Int32)) (fun s0_33 =>
some s0_33)) else (
lt_ (si o128 12 (1 : Int32)) (fun s0_34 =>
some s0_34)))))) else (
(loopF (fX11_ahead_L81) s0_9).bind (fun o81 =>
lt_ (si o81 12 (2 : Int32)) (fun s0_39 =>
some s0_39))))))))
noncomputable def fX11_inWords_J115 (q14 : Int32 × Int32) (y115_4 : Int32) (y115_5 : Int32) : Option ((Int32 × Int32) ⊕ ((Int32) ⊕ (Unit))) :=
if y115_5 = (0 : Int32) then (
lt_ (y115_4 + (1 : Int32)) (fun x3 =>
some (.inl ((q14.1 + (1 : Int32)), x3)))) else (
some (.inr (.inl q14.1)))
noncomputable def fX11_inWords_L68 (s0 : Rc) (q14 : Int32 × Int32) (y63_4 : Int32) (q68 : Int32 × Int32) : Option ((Int32 × Int32) ⊕ Int32) :=
if y63_4 ≤ q68.2 then (
some (.inr q68.1)) else (
if q68.1 = (0 : Int32) then (
some (.inr q68.1)) else (
gd (inb q68.2 167) (
(fX11_byteAt (((gi s0 13) + q68.2) - q14.2) s0).bind (fun r7 =>
if (chv by1 q68.2) = r7 then (
some (.inl ((1 : Int32), (q68.2 + (1 : Int32))))) else (
some (.inl ((0 : Int32), (q68.2 + (1 : Int32)))))))))
noncomputable def fX11_inWords_J63 (s0 : Rc) (q14 : Int32 × Int32) (y63_4 : Int32) (z63_0 : Int32) : Option ((Int32 × Int32) ⊕ ((Int32) ⊕ (Unit))) :=
(loopF (fX11_inWords_L68 s0 q14 y63_4) (z63_0, q14.2)).bind (fun o68 =>
fX11_inWords_J115 q14 y63_4 o68)
noncomputable def fX11_inWords_L25 (q25 : Int32) : Option (Int32 ⊕ Int32) :=
gd (inb q25 167) (
if (chv by1 q25) = (32 : Int32) then (
some (.inr q25)) else (
some (.inl (q25 + (1 : Int32)))))
noncomputable def fX11_inWords_L14 (s0 : Rc) (q14 : Int32 × Int32) : Option ((Int32 × Int32) ⊕ ((Int32) ⊕ (Unit))) :=
if (167 : Int32) ≤ q14.2 then (
some (.inr (.inr ()))) else (
(loopF (fX11_inWords_L25) q14.2).bind (fun o25 =>
if (o25 - q14.2) = ((gi s0 14) - (gi s0 13)) then (
fX11_inWords_J63 s0 q14 o25 (1 : Int32)) else (
fX11_inWords_J63 s0 q14 o25 (0 : Int32))))
noncomputable def fX11_inWords (s0 : Rc) : Option (Int32) :=
if (gi s0 12) = (2 : Int32) then (
(loopF (fX11_inWords_L14 s0) ((0 : Int32), (1 : Int32))).bind (fun o14 =>
Sum.elim (fun o14a =>
some o14a) (fun o14b =>
some (-1 : Int32)) o14)) else (
some (-1 : Int32))
noncomputable def fX11_isName (s0 : Rc) : Option (Int32) :=
if (gi s0 12) = (2 : Int32) then (
if (8 : Int32) < ((gi s0 14) - (gi s0 13)) then (
some (0 : Int32)) else (
(fX11_inWords s0).bind (fun r3 =>
if r3 = (-1 : Int32) then (
some (1 : Int32)) else (
some (0 : Int32))))) else (
some (0 : Int32))
noncomputable def fX11_fails (p1 : Int32) (s0 : Rc) : Int32 × Rc :=
if (gi s0 18) = (0 : Int32) then (
if (gi s0 12) = (1 : Int32) then (
lt_ (si s0 18 (1 : Int32)) (fun s0_5 =>
lt_ (si s0_5 17 (gi s0_5 13)) (fun s0_6 =>
((0 : Int32), s0_6)))) else (
lt_ (si s0 18 p1) (fun s0_3 =>
lt_ (si s0_3 17 (gi s0_3 13)) (fun s0_4 =>
((0 : Int32), s0_4))))) else (
((0 : Int32), s0))
noncomputable def fX11_nameHere_L7 (s0 : Rc) (q7 : Int64 × Int32) : Option ((Int64 × Int32) ⊕ Int64) :=
if (gi s0 14) ≤ q7.2 then (
some (.inr q7.1)) else (
(fX11_byteAt q7.2 s0).bind (fun r3 =>
lt_ ((q7.1 <<< ((8 : Int32).toInt64 &&& 63)) ||| r3.toInt64) (fun x4 =>
some (.inl (x4, (q7.2 + (1 : Int32)))))))
noncomputable def fX11_nameHere (s0 : Rc) : Option (Int64) :=
lt_ (gi s0 13) (fun x1 =>
(loopF (fX11_nameHere_L7 s0) ((0 : Int64), x1)).bind (fun o7 =>
some o7))
noncomputable def fX11_findHere_L2 (p1 : Int32) (p2 : Int32) (s0 : Rc) (q2 : Int32) : Option (Int32 ⊕ ((Int32) ⊕ (Unit))) :=
if p2 ≤ q2 then (
some (.inr (.inr ()))) else (
gd (inb (p1 + q2) 48) (
(fX11_nameHere s0).bind (fun r3 =>
if (gb s0 1 (p1 + q2).toNatClampNeg) = r3 then (
some (.inr (.inl q2))) else (
some (.inl (q2 + (1 : Int32)))))))
noncomputable def fX11_findHere (p1 : Int32) (p2 : Int32) (s0 : Rc) : Option (Int32) :=
(loopF (fX11_findHere_L2 p1 p2 s0) (0 : Int32)).bind (fun o2 =>
Sum.elim (fun o2a =>
some o2a) (fun o2b =>
some (-1 : Int32)) o2)
noncomputable def fX11_oldOne (p1 : Int32) (p2 : Int32) (p3 : Int32) (s0 : Rc) : Option (Int32 × Rc) :=
(fX11_isName s0).bind (fun r1 =>
if r1 = (0 : Int32) then (
lt_ (fX11_fails (2 : Int32) s0) (fun r11 =>
some (r11.1, r11.2))) else (
(fX11_findHere p1 p2 s0).bind (fun r4 =>
gd (inb p3 6240) (
lt_ (sa s0 0 (upd (ga s0 0) p3.toNatClampNeg r4)) (fun s0_6 =>
if (ga s0_6 0 p3.toNatClampNeg) = (-1 : Int32) then (
lt_ (fX11_fails (3 : Int32) s0_6) (fun r9 =>
some (r9.1, r9.2))) else (
(fX11_ahead s0_6).bind (fun r8 =>
some ((1 : Int32), r8))))))))
noncomputable def fX11_number (p1 : Int32) (p2 : Int32) (p3 : Int32) (s0 : Rc) : Option (Int32 × Rc) :=
if (gi s0 12) = (3 : Int32) then (
if (gi s0 15) < p2 then (
lt_ (fX11_fails (4 : Int32) s0) (fun r3 =>
some (r3.1, r3.2))) else (
if (gi s0 15) ≤ p3 then (
gd (inb p1 6240) (
lt_ (sa s0 0 (upd (ga s0 0) p1.toNatClampNeg (gi s0 15))) (fun s0_7 =>
(fX11_ahead s0_7).bind (fun r8 =>
some ((1 : Int32), r8))))) else (
lt_ (fX11_fails (4 : Int32) s0) (fun r9 =>
some (r9.1, r9.2))))) else (
lt_ (fX11_fails (2 : Int32) s0) (fun r11 =>
some (r11.1, r11.2)))
noncomputable def fX11_aDislike_J61 (y61_1 : Int32) (t61_0 : Rc) : Option (Int32 × Rc) :=
(fX11_oldOne (32 : Int32) y61_1 (5191 : Int32) t61_0).bind (fun r1 =>
if r1.1 = (0 : Int32) then (
some ((0 : Int32), r1.2)) else (
(fX11_number (5192 : Int32) (0 : Int32) (99 : Int32) r1.2).bind (fun r4 =>
if r4.1 = (0 : Int32) then (
some ((0 : Int32), r4.2)) else (
gd (inb (((4218 : Int32) + ((8 : Int32) * (ga r4.2 0 (5190 : Int32).toNatClampNeg))) + (ga r4.2 0 (5191 : Int32).toNatClampNeg)) 6240) (
lt_ (sa r4.2 0 (upd (ga r4.2 0) (((4218 : Int32) + ((8 : Int32) * (ga r4.2 0 (5190 : Int32).toNatClampNeg))) + (ga r4.2 0 (5191 : Int32).toNatClampNeg)).toNatClampNeg (ga r4.2 0 (5192 : Int32).toNatClampNeg))) (fun s0_8 =>
gd (inb (((4218 : Int32) + ((8 : Int32) * (ga s0_8 0 (5191 : Int32).toNatClampNeg))) + (ga s0_8 0 (5190 : Int32).toNatClampNeg)) 6240) (
lt_ (sa s0_8 0 (upd (ga s0_8 0) (((4218 : Int32) + ((8 : Int32) * (ga s0_8 0 (5191 : Int32).toNatClampNeg))) + (ga s0_8 0 (5190 : Int32).toNatClampNeg)).toNatClampNeg (ga s0_8 0 (5192 : Int32).toNatClampNeg))) (fun s0_10 =>
some ((1 : Int32), s0_10)))))))))
noncomputable def fX11_aDislike (s0 : Rc) : Option (Int32 × Rc) :=
lt_ (ga s0 0 (4160 : Int32).toNatClampNeg) (fun x11 =>
(fX11_ahead s0).bind (fun r12 =>
(fX11_oldOne (32 : Int32) x11 (5190 : Int32) r12).bind (fun r13 =>
if r13.1 = (0 : Int32) then (
some ((0 : Int32), r13.2)) else (
(fX11_isName r13.2).bind (fun r16 =>
if r16 = (0 : Int32) then (
fX11_aDislike_J61 x11 r13.2) else (
(fX11_findHere (32 : Int32) x11 r13.2).bind (fun r19 =>
if r19 = (ga r13.2 0 (5190 : Int32).toNatClampNeg) then (
lt_ (fX11_fails (5 : Int32) r13.2) (fun r21 =>
some (r21.1, r21.2))) else (
fX11_aDislike_J61 x11 r13.2))))))))
noncomputable def fX11_farmerRow (p1 : Int32) (p2 : Int32) : Int32 :=
((p1 + (10 : Int32)) + ((6 : Int32) * p2))
noncomputable def fX11_wantWord (p2 : Int32) (s0 : Rc) : Option (Int32 × Rc) :=
(fX11_inWords s0).bind (fun r1 =>
if r1 = p2 then (
(fX11_ahead s0).bind (fun r3 =>
some ((1 : Int32), r3))) else (
lt_ (fX11_fails (2 : Int32) s0) (fun r4 =>
some (r4.1, r4.2))))
noncomputable def fX11_isThere (p1 : Int32) (s0 : Rc) : Option (Int32 × Rc) :=
(fX11_inWords s0).bind (fun r1 =>
if r1 = p1 then (
(fX11_ahead s0).bind (fun r3 =>
some ((1 : Int32), r3))) else (
some ((0 : Int32), s0)))
noncomputable def fX11_aFarmer_J255 (y255_2 : Int32) (t255_0 : Rc) : Option (Int32 × Rc) :=
gd (inb (y255_2 + (5 : Int32)) 6240) (
lt_ (sa t255_0 0 (upd (ga t255_0 0) (y255_2 + (5 : Int32)).toNatClampNeg (64 : Int32))) (fun s0_2 =>
lt_ (sa s0_2 0 (upd (ga s0_2 0) (4160 : Int32).toNatClampNeg ((ga s0_2 0 (4160 : Int32).toNatClampNeg) + (1 : Int32)))) (fun s0_3 =>
some ((1 : Int32), s0_3))))
noncomputable def fX11_aFarmer_J220 (y220_2 : Int32) (z220_0 : Int32) (z220_1 : Int32) (t220_0 : Rc) : Option (Int32 × Rc) :=
gd (inb z220_1 6240) (
lt_ (sa t220_0 0 (upd (ga t220_0 0) z220_1.toNatClampNeg z220_0)) (fun s0_5 =>
gd (inb (y220_2 + (4 : Int32)) 6240) (
lt_ (sa s0_5 0 (upd (ga s0_5 0) (y220_2 + (4 : Int32)).toNatClampNeg (1000000 : Int32))) (fun s0_7 =>
(fX11_isThere (9 : Int32) s0_7).bind (fun r8 =>
if r8.1 = (0 : Int32) then (
fX11_aFarmer_J255 y220_2 r8.2) else (
(fX11_number (y220_2 + (4 : Int32)) (0 : Int32) (60 : Int32) r8.2).bind (fun r11 =>
if r11.1 = (0 : Int32) then (
some ((0 : Int32), r11.2)) else (
fX11_aFarmer_J255 y220_2 r11.2))))))))
noncomputable def fX11_aFarmer_J149 (y149_2 : Int32) (t149_0 : Rc) : Option (Int32 × Rc) :=
(fX11_wantWord (6 : Int32) t149_0).bind (fun r14 =>
if r14.1 = (0 : Int32) then (
some ((0 : Int32), r14.2)) else (
(fX11_number (y149_2 + (1 : Int32)) (0 : Int32) (16 : Int32) r14.2).bind (fun r17 =>
if r17.1 = (0 : Int32) then (
some ((0 : Int32), r17.2)) else (
(fX11_wantWord (7 : Int32) r17.2).bind (fun r20 =>
if r20.1 = (0 : Int32) then (
some ((0 : Int32), r20.2)) else (
(fX11_number (y149_2 + (2 : Int32)) (0 : Int32) (16 : Int32) r20.2).bind (fun r23 =>
if r23.1 = (0 : Int32) then (
some ((0 : Int32), r23.2)) else (
(fX11_isThere (8 : Int32) r23.2).bind (fun r26 =>
if r26.1 = (0 : Int32) then (
fX11_aFarmer_J220 y149_2 (0 : Int32) (y149_2 + (3 : Int32)) r26.2) else (
fX11_aFarmer_J220 y149_2 (1 : Int32) (y149_2 + (3 : Int32)) r26.2))))))))))
noncomputable def fX11_aFarmer_J122 (y122_2 : Int32) (y122_3 : Int32) (z122_0 : Int32) (z122_1 : Int32) (t122_0 : Rc) : Option (Int32 × Rc) :=
(fX11_number z122_1 z122_0 (3 : Int32) t122_0).bind (fun r29 =>
if r29.1 = (0 : Int32) then (
some ((0 : Int32), r29.2)) else (
if y122_3 = (5 : Int32) then (
gd (inb y122_2 6240) (
lt_ (sa r29.2 0 (upd (ga r29.2 0) y122_2.toNatClampNeg (-(ga r29.2 0 y122_2.toNatClampNeg)))) (fun s0_34 =>
fX11_aFarmer_J149 y122_2 s0_34))) else (
fX11_aFarmer_J149 y122_2 r29.2)))
noncomputable def fX11_aFarmer_J106 (y106_2 : Int32) (y106_3 : Int32) (t106_0 : Rc) : Option (Int32 × Rc) :=
(fX11_ahead t106_0).bind (fun r35 =>
if y106_3 = (4 : Int32) then (
fX11_aFarmer_J122 y106_2 y106_3 (0 : Int32) y106_2 r35) else (
fX11_aFarmer_J122 y106_2 y106_3 (1 : Int32) y106_2 r35))
noncomputable def fX11_aFarmer (s0 : Rc) : Option (Int32 × Rc) :=
lt_ (ga s0 0 (4160 : Int32).toNatClampNeg) (fun x37 =>
lt_ (fX11_farmerRow (4160 : Int32) x37) (fun x38 =>
if x37 = (8 : Int32) then (
lt_ (fX11_fails (6 : Int32) s0) (fun r59 =>
some (r59.1, r59.2))) else (
(fX11_ahead s0).bind (fun r40 =>
(fX11_isName r40).bind (fun r41 =>
if r41 = (0 : Int32) then (
lt_ (fX11_fails (2 : Int32) r40) (fun r57 =>
some (r57.1, r57.2))) else (
(fX11_findHere (32 : Int32) x37 r40).bind (fun r44 =>
if r44 = (-1 : Int32) then (
(fX11_nameHere r40).bind (fun r46 =>
gd (inb ((32 : Int32) + x37) 48) (
lt_ (sb r40 1 (vp_updL (gb r40 1) ((32 : Int32) + x37).toNatClampNeg r46)) (fun s0_48 =>
(fX11_ahead s0_48).bind (fun r49 =>
(fX11_inWords r49).bind (fun r50 =>
if r50 = (4 : Int32) then (
fX11_aFarmer_J106 x38 r50 r49) else (
if r50 = (5 : Int32) then (
fX11_aFarmer_J106 x38 r50 r49) else (
lt_ (fX11_fails (2 : Int32) r49) (fun r53 =>
some (r53.1, r53.2)))))))))) else (
lt_ (fX11_fails (3 : Int32) r40) (fun r55 =>
some (r55.1, r55.2))))))))))
noncomputable def fX11_aVote (s0 : Rc) : Option (Int32 × Rc) :=
if (gi s0 20) = (0 : Int32) then (
lt_ (si s0 20 (1 : Int32)) (fun s0_2 =>
(fX11_ahead s0_2).bind (fun r3 =>
(fX11_inWords r3).bind (fun r4 =>
if r4 < (10 : Int32) then (
lt_ (fX11_fails (2 : Int32) r3) (fun r6 =>
some (r6.1, r6.2))) else (
if r4 ≤ (13 : Int32) then (
lt_ (sa r3 0 (upd (ga r3 0) (4162 : Int32).toNatClampNeg (r4 - (10 : Int32)))) (fun s0_9 =>
(fX11_ahead s0_9).bind (fun r10 =>
some ((1 : Int32), r10)))) else (
lt_ (fX11_fails (2 : Int32) r3) (fun r11 =>
some (r11.1, r11.2)))))))) else (
lt_ (fX11_fails (5 : Int32) s0) (fun r13 =>
some (r13.1, r13.2)))
noncomputable def fX11_skyOf (p1 : Int32) : Int32 :=
if p1 = (100 : Int32) then (
(0 : Int32)) else (
if p1 = (114 : Int32) then (
(1 : Int32)) else (
if p1 = (104 : Int32) then (
(2 : Int32)) else (
(-1 : Int32))))
noncomputable def fX11_aWeather_L37 (r1 : Rc) (q37 : Int32) : Option (Int32 ⊕ ((Unit) ⊕ (Unit))) :=
if (gi r1 14) ≤ q37 then (
some (.inr (.inr ()))) else (
(fX11_byteAt q37 r1).bind (fun r8 =>
if (fX11_skyOf r8) = (-1 : Int32) then (
some (.inr (.inl ()))) else (
some (.inl (q37 + (1 : Int32))))))
noncomputable def fX11_aWeather_L104 (q104 : Int32 × Rc) : Option ((Int32 × Rc) ⊕ Rc) :=
if (gi q104.2 14) ≤ q104.1 then (
some (.inr q104.2)) else (
(fX11_byteAt q104.1 q104.2).bind (fun r15 =>
gd (inb ((4282 : Int32) + (ga q104.2 0 (4161 : Int32).toNatClampNeg)) 6240) (
lt_ (sa q104.2 0 (upd (ga q104.2 0) ((4282 : Int32) + (ga q104.2 0 (4161 : Int32).toNatClampNeg)).toNatClampNeg (fX11_skyOf r15))) (fun s0_17 =>
lt_ (sa s0_17 0 (upd (ga s0_17 0) (4161 : Int32).toNatClampNeg ((ga s0_17 0 (4161 : Int32).toNatClampNeg) + (1 : Int32)))) (fun s0_18 =>
some (.inl ((q104.1 + (1 : Int32)), s0_18)))))))
noncomputable def fX11_aWeather (s0 : Rc) : Option (Int32 × Rc) :=
(fX11_ahead s0).bind (fun r1 =>
if (gi r1 12) = (2 : Int32) then (
if ((gi r1 14) - (gi r1 13)) ≤ (60 : Int32) then (
lt_ (gi r1 13) (fun x6 =>
(loopF (fX11_aWeather_L37 r1) x6).bind (fun o37 =>
Sum.elim (fun o37a =>
lt_ (fX11_fails (2 : Int32) r1) (fun r10 =>
some (r10.1, r10.2))) (fun o37b =>
if (((ga r1 0 (4161 : Int32).toNatClampNeg) + (gi r1 14)) - (gi r1 13)) ≤ (60 : Int32) then (
lt_ (gi r1 13) (fun x13 =>
(loopF (fX11_aWeather_L104) (x13, r1)).bind (fun o104 =>
(fX11_ahead o104).bind (fun r19 =>
some ((1 : Int32), r19))))) else (
lt_ (fX11_fails (6 : Int32) r1) (fun r20 =>
some (r20.1, r20.2)))) o37))) else (
lt_ (fX11_fails (2 : Int32) r1) (fun r22 =>
some (r22.1, r22.2)))) else (
lt_ (fX11_fails (2 : Int32) r1) (fun r3 =>
some (r3.1, r3.2))))
noncomputable def fX11_isFarmer (p1 : Int32) (s0 : Rc) : Int32 :=
if p1 < (0 : Int32) then (
(0 : Int32)) else (
if (ga s0 0 (0 : Int32).toNatClampNeg) ≤ p1 then (
(0 : Int32)) else (
(1 : Int32)))
noncomputable def fX11_refuse (p1 : Int32) (s0 : Rc) : Int32 × Rc :=
lt_ (si s0 2 p1) (fun s0_1 =>
((-1 : Int32), s0_1))
noncomputable def fX11_lagOf (p1 : Int32) (s0 : Rc) : Option (Int32) :=
gd (inb (fX11_farmerRow (0 : Int32) p1) 6240) (
some (ga s0 0 (fX11_farmerRow (0 : Int32) p1).toNatClampNeg))
noncomputable def fX11_isDay (p1 : Int32) (s0 : Rc) : Int32 :=
if p1 < (0 : Int32) then (
(0 : Int32)) else (
if (ga s0 0 (1 : Int32).toNatClampNeg) ≤ p1 then (
(0 : Int32)) else (
(1 : Int32)))
noncomputable def fX11_isWell (p1 : Int32) (p2 : Int32) (s0 : Rc) : Option (Int32) :=
gd (inb ((fX11_farmerRow (0 : Int32) p1) + (4 : Int32)) 6240) (
if p2 < (ga s0 0 ((fX11_farmerRow (0 : Int32) p1) + (4 : Int32)).toNatClampNeg) then (
some (0 : Int32)) else (
some (1 : Int32)))
noncomputable def fX11_twingeRow (p1 : Int32) (p2 : Int32) : Int32 :=
(((182 : Int32) + ((60 : Int32) * p1)) + p2)
noncomputable def fX11_tellOf (p1 : Int32) (p2 : Int32) (s0 : Rc) : Option (Int32) :=
(fX11_lagOf p1 s0).bind (fun r1 =>
lt_ (p2 - r1) (fun x2 =>
if p1 = (gi s0 25) then (
some (-1 : Int32)) else (
if (fX11_isDay x2 s0) = (0 : Int32) then (
some (-1 : Int32)) else (
(fX11_isWell p1 x2 s0).bind (fun r6 =>
if r6 = (0 : Int32) then (
gd (inb (fX11_twingeRow p1 x2) 6240) (
some ((ga s0 0 (fX11_twingeRow p1 x2).toNatClampNeg) ^^^ (((gi s0 26) >>> (p1 &&& 31)) &&& (1 : Int32))))) else (
some (-1 : Int32)))))))
noncomputable def fX11_sayOf_J182 (z182_0 : Int32) : Option (Int32) :=
if z182_0 = (0 : Int32) then (
some (0 : Int32)) else (
some (1 : Int32))
noncomputable def fX11_sayOf_L10 (p1 : Int32) (s0 : Rc) (q10 : Int32 × Int32 × Int32 × Int32) : Option ((Int32 × Int32 × Int32 × Int32) ⊕ (Int32 × Int32 × Int32)) :=
if (ga s0 0 (0 : Int32).toNatClampNeg) ≤ q10.2.2.2 then (
some (.inr (q10.1, q10.2.1, q10.2.2.1))) else (
(fX11_tellOf q10.2.2.2 p1 s0).bind (fun r3 =>
if r3 = (-1 : Int32) then (
some (.inl (q10.1, q10.2.1, q10.2.2.1, (q10.2.2.2 + (1 : Int32))))) else (
lt_ (q10.1 + r3) (fun x5 =>
lt_ (q10.2.1 + ((1 : Int32) - r3)) (fun x6 =>
if r3 = (1 : Int32) then (
gd (inb ((fX11_farmerRow (0 : Int32) q10.2.2.2) + (5 : Int32)) 6240) (
lt_ (q10.2.2.1 + (ga s0 0 ((fX11_farmerRow (0 : Int32) q10.2.2.2) + (5 : Int32)).toNatClampNeg)) (fun x11 =>
some (.inl (x5, x6, x11, (q10.2.2.2 + (1 : Int32))))))) else (
gd (inb ((fX11_farmerRow (0 : Int32) q10.2.2.2) + (5 : Int32)) 6240) (
lt_ (q10.2.2.1 + (-(ga s0 0 ((fX11_farmerRow (0 : Int32) q10.2.2.2) + (5 : Int32)).toNatClampNeg))) (fun x9 =>
some (.inl (x5, x6, x9, (q10.2.2.2 + (1 : Int32))))))))))))
noncomputable def fX11_sayOf (p1 : Int32) (s0 : Rc) : Option (Int32) :=
(loopF (fX11_sayOf_L10 p1 s0) ((0 : Int32), (0 : Int32), (0 : Int32), (0 : Int32))).bind (fun o10 =>
if (o10.1 + o10.2.1) = (0 : Int32) then (
some (-1 : Int32)) else (
if (ga s0 0 (2 : Int32).toNatClampNeg) = (0 : Int32) then (
if o10.1 ≤ o10.2.1 then (
fX11_sayOf_J182 (0 : Int32)) else (
fX11_sayOf_J182 (1 : Int32))) else (
if (ga s0 0 (2 : Int32).toNatClampNeg) = (1 : Int32) then (
if o10.2.2 ≤ (0 : Int32) then (
fX11_sayOf_J182 (0 : Int32)) else (
fX11_sayOf_J182 (1 : Int32))) else (
if (ga s0 0 (2 : Int32).toNatClampNeg) = (2 : Int32) then (
if o10.1 ≤ (0 : Int32) then (
fX11_sayOf_J182 (0 : Int32)) else (
fX11_sayOf_J182 (1 : Int32))) else (
if o10.2.1 = (0 : Int32) then (
fX11_sayOf_J182 (1 : Int32)) else (
fX11_sayOf_J182 (0 : Int32)))))))
noncomputable def fX11_gives (p1 : Int32) (s0 : Rc) : Int32 × Rc :=
lt_ (si s0 2 (0 : Int32)) (fun s0_1 =>
(p1, s0_1))
noncomputable def fX11_agrees_L18 (p1 : Int32) (s0 : Rc) (q18 : Int32 × Int32) : Option ((Int32 × Int32) ⊕ Int32) :=
if (ga s0 0 (1 : Int32).toNatClampNeg) ≤ q18.2 then (
some (.inr q18.1)) else (
(fX11_tellOf p1 q18.2 s0).bind (fun r4 =>
if r4 = (-1 : Int32) then (
lt_ (q18.1 + (0 : Int32)) (fun x6 =>
some (.inl (x6, (q18.2 + (1 : Int32)))))) else (
(fX11_tellOf p1 q18.2 s0).bind (fun r7 =>
(fX11_sayOf q18.2 s0).bind (fun r8 =>
if r7 = r8 then (
lt_ (q18.1 + (1 : Int32)) (fun x11 =>
some (.inl (x11, (q18.2 + (1 : Int32)))))) else (
lt_ (q18.1 + (0 : Int32)) (fun x10 =>
some (.inl (x10, (q18.2 + (1 : Int32)))))))))))
noncomputable def fX11_agrees (p1 : Int32) (s0 : Rc) : Option (Int32 × Rc) :=
if (fX11_isFarmer p1 s0) = (0 : Int32) then (
lt_ (fX11_refuse (1 : Int32) s0) (fun r13 =>
some (r13.1, r13.2))) else (
(loopF (fX11_agrees_L18 p1 s0) ((0 : Int32), (0 : Int32))).bind (fun o18 =>
lt_ (fX11_gives o18 s0) (fun r12 =>
some (r12.1, r12.2))))
noncomputable def fX11_felt (p1 : Int32) (p2 : Int32) (s0 : Rc) : Option (Int32) :=
gd (inb (fX11_twingeRow p1 p2) 6240) (
if (ga s0 0 (fX11_twingeRow p1 p2).toNatClampNeg) = (1 : Int32) then (
some (1 : Int32)) else (
some (0 : Int32)))
noncomputable def fX11_alikeOf_L5 (p1 : Int32) (p2 : Int32) (s0 : Rc) (q5 : Int32 × Int32) : Option ((Int32 × Int32) ⊕ Int32) :=
if (ga s0 0 (1 : Int32).toNatClampNeg) ≤ q5.2 then (
some (.inr q5.1)) else (
(fX11_felt p1 q5.2 s0).bind (fun r2 =>
if r2 = (0 : Int32) then (
lt_ (q5.1 + (0 : Int32)) (fun x5 =>
some (.inl (x5, (q5.2 + (1 : Int32)))))) else (
(fX11_felt p2 q5.2 s0).bind (fun r6 =>
if r6 = (0 : Int32) then (
lt_ (q5.1 + (0 : Int32)) (fun x9 =>
some (.inl (x9, (q5.2 + (1 : Int32)))))) else (
lt_ (q5.1 + (1 : Int32)) (fun x10 =>
some (.inl (x10, (q5.2 + (1 : Int32))))))))))
noncomputable def fX11_alikeOf (p1 : Int32) (p2 : Int32) (s0 : Rc) : Option (Int32) :=
(loopF (fX11_alikeOf_L5 p1 p2 s0) ((0 : Int32), (0 : Int32))).bind (fun o5 =>
some o5)
noncomputable def fX11_alike (p1 : Int32) (p2 : Int32) (s0 : Rc) : Option (Int32 × Rc) :=
if (fX11_isFarmer p1 s0) = (0 : Int32) then (
lt_ (fX11_refuse (1 : Int32) s0) (fun r3 =>
some (r3.1, r3.2))) else (
if (fX11_isFarmer p2 s0) = (0 : Int32) then (
lt_ (fX11_refuse (1 : Int32) s0) (fun r6 =>
some (r6.1, r6.2))) else (
if p1 = p2 then (
lt_ (fX11_refuse (1 : Int32) s0) (fun r8 =>
some (r8.1, r8.2))) else (
(fX11_alikeOf p1 p2 s0).bind (fun r9 =>
lt_ (fX11_gives r9 s0) (fun r10 =>
some (r10.1, r10.2))))))
noncomputable def fX11_copies_L2 (p1 : Int32) (p2 : Int32) (q2 : Int32 × Rc) : Option ((Int32 × Rc) ⊕ Rc) :=
if (1040 : Int32) ≤ q2.1 then (
some (.inr q2.2)) else (
gd (inb (((1040 : Int32) * p1) + q2.1) 6240) (
gd (inb (((1040 : Int32) * p2) + q2.1) 6240) (
lt_ (sa q2.2 0 (upd (ga q2.2 0) (((1040 : Int32) * p2) + q2.1).toNatClampNeg (ga q2.2 0 (((1040 : Int32) * p1) + q2.1).toNatClampNeg))) (fun s0_4 =>
some (.inl ((q2.1 + (1 : Int32)), s0_4))))))
noncomputable def fX11_copies_L41 (p1 : Int32) (p2 : Int32) (q41 : Int32 × Rc) : Option ((Int32 × Rc) ⊕ Rc) :=
if (8 : Int32) ≤ q41.1 then (
some (.inr q41.2)) else (
gd (inb (((8 : Int32) * p1) + q41.1) 48) (
gd (inb (((8 : Int32) * p2) + q41.1) 48) (
lt_ (sb q41.2 1 (vp_updL (gb q41.2 1) (((8 : Int32) * p2) + q41.1).toNatClampNeg (gb q41.2 1 (((8 : Int32) * p1) + q41.1).toNatClampNeg))) (fun s0_8 =>
some (.inl ((q41.1 + (1 : Int32)), s0_8))))))
noncomputable def fX11_copies (p1 : Int32) (p2 : Int32) (s0 : Rc) : Option (Rc) :=
(loopF (fX11_copies_L2 p1 p2) ((0 : Int32), s0)).bind (fun o2 =>
(loopF (fX11_copies_L41 p1 p2) ((0 : Int32), o2)).bind (fun o41 =>
some o41))
noncomputable def fX11_back (s0 : Rc) : Option (Int32 × Rc) :=
if (gi s0 37) = (0 : Int32) then (
lt_ (fX11_refuse (6 : Int32) s0) (fun r5 =>
some (r5.1, r5.2))) else (
(fX11_copies (gi s0 37) (0 : Int32) s0).bind (fun r2 =>
lt_ (si r2 37 ((gi r2 37) - (1 : Int32))) (fun s0_3 =>
lt_ (fX11_gives (gi s0_3 37) s0_3) (fun r4 =>
some (r4.1, r4.2)))))
noncomputable def fX11_begins_L26 (p1 : Int32) (q26 : Int32 × Rc) : Option ((Int32 × Rc) ⊕ Rc) :=
if p1 ≤ q26.1 then (
some (.inr q26.2)) else (
gd (inb q26.1 900) (
lt_ (sa q26.2 9 (upd (ga q26.2 9) q26.1.toNatClampNeg (vp_nar .byte (ga q26.2 8 q26.1.toNatClampNeg)))) (fun s0_7 =>
some (.inl ((q26.1 + (1 : Int32)), s0_7)))))
noncomputable def fX11_begins (p1 : Int32) (p2 : Int32) (s0 : Rc) : Option (Int32 × Rc) :=
if p1 < (0 : Int32) then (
some ((0 : Int32), s0)) else (
if (gi s0 10) < p1 then (
some ((0 : Int32), s0)) else (
if p1 ≤ p2 then (
lt_ (si s0 11 p1) (fun s0_4 =>
(loopF (fX11_begins_L26 p1) ((0 : Int32), s0_4)).bind (fun o26 =>
lt_ (si o26 10 (0 : Int32)) (fun s0_8 =>
lt_ (si s0_8 18 (0 : Int32)) (fun s0_9 =>
lt_ (si s0_9 17 (-1 : Int32)) (fun s0_10 =>
lt_ (si s0_10 14 (0 : Int32)) (fun s0_11 =>
lt_ (si s0_11 19 (0 : Int32)) (fun s0_12 =>
(fX11_ahead s0_12).bind (fun r13 =>
some ((1 : Int32), r13)))))))))) else (
some ((0 : Int32), s0))))
noncomputable def fX11_behind (p1 : Int32) (s0 : Rc) : Option (Int32) :=
if (gi s0 31) = (0 : Int32) then (
some (0 : Int32)) else (
gd (inb ((gi s0 31) - (1 : Int32)) 8) (
gd (inb (((58 : Int32) + ((8 : Int32) * (ga s0 30 ((gi s0 31) - (1 : Int32)).toNatClampNeg))) + p1) 6240) (
some (ga s0 0 (((58 : Int32) + ((8 : Int32) * (ga s0 30 ((gi s0 31) - (1 : Int32)).toNatClampNeg))) + p1).toNatClampNeg))))
noncomputable def fX11_behindEnds_J97 (q2 : Int32 × Rc) (y97_3 : Int32) (y97_4 : Int32) (z97_0 : Int32) (z97_1 : Int32) (z97_2 : Int32) : Option ((Int32 × Rc) ⊕ (Int32 × Rc)) :=
gd (inb z97_2 80) (
lt_ (sa q2.2 33 (upd (ga q2.2 33) z97_2.toNatClampNeg (z97_1 - z97_0))) (fun s0_2 =>
if y97_4 = (0 : Int32) then (
lt_ (q2.1 + (1 : Int32)) (fun x4 =>
some (.inl (x4, s0_2)))) else (
lt_ (y97_3 + (1 : Int32)) (fun x5 =>
some (.inl (x5, s0_2))))))
noncomputable def fX11_behindEnds_J78 (q2 : Int32 × Rc) (y78_3 : Int32) (z78_0 : Int32) : Option ((Int32 × Rc) ⊕ (Int32 × Rc)) :=
gd (inb y78_3 80) (
if z78_0 = (0 : Int32) then (
fX11_behindEnds_J97 q2 y78_3 z78_0 (0 : Int32) (ga q2.2 33 y78_3.toNatClampNeg) y78_3) else (
fX11_behindEnds_J97 q2 y78_3 z78_0 (1 : Int32) (ga q2.2 33 y78_3.toNatClampNeg) y78_3))
noncomputable def fX11_behindEnds_J77 (q2 : Int32 × Rc) (y77_3 : Int32) : Option ((Int32 × Rc) ⊕ (Int32 × Rc)) :=
fX11_behindEnds_J78 q2 y77_3 (0 : Int32)
noncomputable def fX11_behindEnds_L2 (q2 : Int32 × Rc) : Option ((Int32 × Rc) ⊕ (Int32 × Rc)) :=
if (ga q2.2 0 (3 : Int32).toNatClampNeg) ≤ q2.1 then (
some (.inr (q2.1, q2.2))) else (
gd (inb ((670 : Int32) + ((6 : Int32) * q2.1)) 6240) (
if (ga q2.2 0 ((670 : Int32) + ((6 : Int32) * q2.1)).toNatClampNeg) = (25 : Int32) then (
gd (inb (((670 : Int32) + ((6 : Int32) * q2.1)) + (4 : Int32)) 6240) (
lt_ (ga q2.2 0 (((670 : Int32) + ((6 : Int32) * q2.1)) + (4 : Int32)).toNatClampNeg) (fun x12 =>
gd (inb ((670 : Int32) + ((6 : Int32) * x12)) 6240) (
if (ga q2.2 0 ((670 : Int32) + ((6 : Int32) * x12)).toNatClampNeg) = (24 : Int32) then (
gd (inb x12 80) (
if (ga q2.2 33 x12.toNatClampNeg) ≤ (0 : Int32) then (
fX11_behindEnds_J77 q2 x12) else (
fX11_behindEnds_J78 q2 x12 (1 : Int32)))) else (
fX11_behindEnds_J77 q2 x12))))) else (
some (.inr (q2.1, q2.2)))))
noncomputable def fX11_behindEnds (p1 : Int32) (s0 : Rc) : Option (Int32 × Rc) :=
(loopF (fX11_behindEnds_L2) (p1, s0)).bind (fun o2 =>
some (o2.1, o2.2))
noncomputable def fX11_isAsked (p1 : Int32) : Int32 :=
if p1 < (0 : Int32) then (
(0 : Int32)) else (
if (62 : Int32) < p1 then (
(0 : Int32)) else (
(1 : Int32)))
noncomputable def fX11_believers_L17 (p1 : Int32) (s0 : Rc) (q17 : Int32 × Int32) : Option ((Int32 × Int32) ⊕ Int32) :=
if (ga s0 0 (0 : Int32).toNatClampNeg) ≤ q17.2 then (
some (.inr q17.1)) else (
(fX11_tellOf q17.2 p1 s0).bind (fun r4 =>
if r4 = (1 : Int32) then (
lt_ (q17.1 ||| ((1 : Int32) <<< (q17.2 &&& 31))) (fun x7 =>
some (.inl (x7, (q17.2 + (1 : Int32)))))) else (
lt_ (q17.1 ||| (0 : Int32)) (fun x6 =>
some (.inl (x6, (q17.2 + (1 : Int32))))))))
noncomputable def fX11_believers (p1 : Int32) (s0 : Rc) : Option (Int32 × Rc) :=
if (fX11_isAsked p1) = (0 : Int32) then (
lt_ (fX11_refuse (1 : Int32) s0) (fun r9 =>
some (r9.1, r9.2))) else (
(loopF (fX11_believers_L17 p1 s0) ((0 : Int32), (0 : Int32))).bind (fun o17 =>
lt_ (fX11_gives o17 s0) (fun r8 =>
some (r8.1, r8.2))))
noncomputable def fX11_plain_L2 (p1 : Int32) (q2 : Int32 × Rc) : Option ((Int32 × Rc) ⊕ Rc) :=
if (1040 : Int32) ≤ q2.1 then (
some (.inr q2.2)) else (
gd (inb (p1 + q2.1) 6240) (
lt_ (sa q2.2 0 (upd (ga q2.2 0) (p1 + q2.1).toNatClampNeg (0 : Int32))) (fun s0_3 =>
some (.inl ((q2.1 + (1 : Int32)), s0_3)))))
noncomputable def fX11_plain (p1 : Int32) (s0 : Rc) : Option (Rc) :=
(loopF (fX11_plain_L2 p1) ((0 : Int32), s0)).bind (fun o2 =>
gd (inb (p1 + (3 : Int32)) 6240) (
lt_ (sa o2 0 (upd (ga o2 0) (p1 + (3 : Int32)).toNatClampNeg (-1 : Int32))) (fun s0_5 =>
some s0_5)))
noncomputable def fX11_isSign (p1 : Int32) (s0 : Rc) : Int32 :=
if (gi s0 12) = (4 : Int32) then (
if (gi s0 15) = p1 then (
(1 : Int32)) else (
(0 : Int32))) else (
(0 : Int32))
noncomputable def fX11_wantSign (p1 : Int32) (s0 : Rc) : Option (Int32 × Rc) :=
if (fX11_isSign p1 s0) = (0 : Int32) then (
lt_ (fX11_fails (2 : Int32) s0) (fun r4 =>
some (r4.1, r4.2))) else (
(fX11_ahead s0).bind (fun r3 =>
some ((1 : Int32), r3)))
noncomputable def fX11_benchPart_J74 (y74_1 : Int32) (t74_0 : Rc) : Option (Int32 × Rc) :=
if y74_1 = (0 : Int32) then (
some ((0 : Int32), t74_0)) else (
(fX11_wantSign (59 : Int32) t74_0).bind (fun r2 =>
if r2.1 = (0 : Int32) then (
some ((0 : Int32), r2.2)) else (
some ((1 : Int32), r2.2))))
noncomputable def fX11_benchPart (s0 : Rc) : Option (Int32 × Rc) :=
(fX11_inWords s0).bind (fun r5 =>
if r5 = (0 : Int32) then (
(fX11_aFarmer s0).bind (fun r7 =>
fX11_benchPart_J74 r7.1 r7.2)) else (
if r5 = (1 : Int32) then (
(fX11_aDislike s0).bind (fun r10 =>
fX11_benchPart_J74 r10.1 r10.2)) else (
if r5 = (2 : Int32) then (
(fX11_aWeather s0).bind (fun r13 =>
fX11_benchPart_J74 r13.1 r13.2)) else (
if r5 = (3 : Int32) then (
(fX11_aVote s0).bind (fun r16 =>
fX11_benchPart_J74 r16.1 r16.2)) else (
lt_ (fX11_fails (2 : Int32) s0) (fun r18 =>
some (r18.1, r18.2)))))))
noncomputable def fX11_comesFor (p1 : Int32) (p2 : Int32) (s0 : Rc) : Option (Int32) :=
gd (inb ((122 : Int32) + p2) 6240) (
gd (inb ((fX11_farmerRow (0 : Int32) p1) + (3 : Int32)) 6240) (
if (ga s0 0 ((122 : Int32) + p2).toNatClampNeg) ≤ (ga s0 0 ((fX11_farmerRow (0 : Int32) p1) + (3 : Int32)).toNatClampNeg) then (
some (0 : Int32)) else (
some (1 : Int32))))
noncomputable def fX11_shouldFeel (p1 : Int32) (p2 : Int32) (s0 : Rc) : Option (Int32) :=
(fX11_lagOf p1 s0).bind (fun r1 =>
if (fX11_isDay (p2 + r1) s0) = (0 : Int32) then (
some (0 : Int32)) else (
(fX11_lagOf p1 s0).bind (fun r4 =>
(fX11_comesFor p1 (p2 + r4) s0).bind (fun r5 =>
if r5 = (0 : Int32) then (
some (0 : Int32)) else (
(fX11_isWell p1 p2 s0).bind (fun r8 =>
if r8 = (0 : Int32) then (
some (1 : Int32)) else (
some (0 : Int32))))))))
noncomputable def fX11_taken (p1 : Int32) (s0 : Rc) : Int32 × Rc :=
lt_ (si s0 16 (gi s0 18)) (fun s0_1 =>
if (gi s0_1 18) ≤ (0 : Int32) then (
lt_ (fX11_gives p1 s0_1) (fun r3 =>
(r3.1, r3.2))) else (
lt_ (fX11_refuse (9 : Int32) s0_1) (fun r4 =>
(r4.1, r4.2))))
noncomputable def fX11_bench_J181 (t181_0 : Rc) : Option (Int32 × Rc) :=
lt_ (fX11_taken (ga t181_0 0 (0 : Int32).toNatClampNeg) t181_0) (fun r1 =>
some (r1.1, r1.2))
noncomputable def fX11_bench_L59 (q59 : Int32 × Rc) : Option ((Int32 × Rc) ⊕ Rc) :=
if (1040 : Int32) ≤ q59.1 then (
some (.inr q59.2)) else (
gd (inb ((4160 : Int32) + q59.1) 6240) (
gd (inb q59.1 6240) (
lt_ (sa q59.2 0 (upd (ga q59.2 0) q59.1.toNatClampNeg (ga q59.2 0 ((4160 : Int32) + q59.1).toNatClampNeg))) (fun s0_6 =>
some (.inl ((q59.1 + (1 : Int32)), s0_6))))))
noncomputable def fX11_bench_L90 (q90 : Int32 × Rc) : Option ((Int32 × Rc) ⊕ Rc) :=
if (8 : Int32) ≤ q90.1 then (
some (.inr q90.2)) else (
gd (inb ((32 : Int32) + q90.1) 48) (
gd (inb q90.1 48) (
lt_ (sb q90.2 1 (vp_updL (gb q90.2 1) q90.1.toNatClampNeg (gb q90.2 1 ((32 : Int32) + q90.1).toNatClampNeg))) (fun s0_10 =>
some (.inl ((q90.1 + (1 : Int32)), s0_10))))))
noncomputable def fX11_bench_L132 (q119 : Int32 × Rc) (q132 : Int32 × Rc) : Option ((Int32 × Rc) ⊕ Rc) :=
if (ga q132.2 0 (1 : Int32).toNatClampNeg) ≤ q132.1 then (
some (.inr q132.2)) else (
(fX11_shouldFeel q119.1 q132.1 q132.2).bind (fun r13 =>
if r13 = (0 : Int32) then (
gd (inb (fX11_twingeRow q119.1 q132.1) 6240) (
lt_ (sa q132.2 0 (upd (ga q132.2 0) (fX11_twingeRow q119.1 q132.1).toNatClampNeg (0 : Int32))) (fun s0_17 =>
some (.inl ((q132.1 + (1 : Int32)), s0_17))))) else (
gd (inb (fX11_twingeRow q119.1 q132.1) 6240) (
lt_ (sa q132.2 0 (upd (ga q132.2 0) (fX11_twingeRow q119.1 q132.1).toNatClampNeg (1 : Int32))) (fun s0_19 =>
some (.inl ((q132.1 + (1 : Int32)), s0_19)))))))
noncomputable def fX11_bench_L119 (q119 : Int32 × Rc) : Option ((Int32 × Rc) ⊕ Rc) :=
if (ga q119.2 0 (0 : Int32).toNatClampNeg) ≤ q119.1 then (
some (.inr q119.2)) else (
(loopF (fX11_bench_L132 q119) ((0 : Int32), q119.2)).bind (fun o132 =>
some (.inl ((q119.1 + (1 : Int32)), o132))))
noncomputable def fX11_bench_J50 (t50_0 : Rc) : Option (Int32 × Rc) :=
if (gi t50_0 18) = (0 : Int32) then (
(loopF (fX11_bench_L59) ((0 : Int32), t50_0)).bind (fun o59 =>
(loopF (fX11_bench_L90) ((0 : Int32), o59)).bind (fun o90 =>
(loopF (fX11_bench_L119) ((0 : Int32), o90)).bind (fun o119 =>
fX11_bench_J181 o119)))) else (
fX11_bench_J181 t50_0)
noncomputable def fX11_bench_L31 (q31 : Int32 × Rc) : Option ((Int32 × Rc) ⊕ Rc) :=
if q31.1 = (0 : Int32) then (
some (.inr q31.2)) else (
if (gi q31.2 12) = (0 : Int32) then (
some (.inr q31.2)) else (
(fX11_benchPart q31.2).bind (fun r27 =>
some (.inl (r27.1, r27.2)))))
noncomputable def fX11_bench (p1 : Int32) (s0 : Rc) : Option (Int32 × Rc) :=
(fX11_begins p1 (900 : Int32) s0).bind (fun r20 =>
if r20.1 = (0 : Int32) then (
lt_ (fX11_refuse (1 : Int32) r20.2) (fun r29 =>
some (r29.1, r29.2))) else (
(fX11_plain (4160 : Int32) r20.2).bind (fun r23 =>
lt_ (si r23 20 (0 : Int32)) (fun s0_24 =>
(loopF (fX11_bench_L31) ((1 : Int32), s0_24)).bind (fun o31 =>
fX11_bench_J50 o31)))))
noncomputable def fX11_isWet (p1 : Int32) (s0 : Rc) : Option (Int32) :=
gd (inb ((122 : Int32) + p1) 6240) (
if (ga s0 0 ((122 : Int32) + p1).toNatClampNeg) ≤ (0 : Int32) then (
some (0 : Int32)) else (
some (1 : Int32)))
noncomputable def fX11_keptOf_J33 (q4 : Int32 × Int32) (z33_0 : Int32) (z33_1 : Int32) (z33_2 : Int32) : Option ((Int32 × Int32) ⊕ Int32) :=
if z33_1 = z33_0 then (
lt_ (z33_2 + (1 : Int32)) (fun x3 =>
some (.inl (x3, (q4.2 + (1 : Int32)))))) else (
lt_ (z33_2 + (0 : Int32)) (fun x2 =>
some (.inl (x2, (q4.2 + (1 : Int32))))))
noncomputable def fX11_keptOf_L4 (s0 : Rc) (q4 : Int32 × Int32) : Option ((Int32 × Int32) ⊕ Int32) :=
if (ga s0 0 (1 : Int32).toNatClampNeg) ≤ q4.2 then (
some (.inr q4.1)) else (
(fX11_sayOf q4.2 s0).bind (fun r5 =>
(fX11_isWet q4.2 s0).bind (fun r6 =>
if r6 = (0 : Int32) then (
fX11_keptOf_J33 q4 (0 : Int32) r5 q4.1) else (
fX11_keptOf_J33 q4 (1 : Int32) r5 q4.1))))
noncomputable def fX11_keptOf (s0 : Rc) : Option (Int32) :=
(loopF (fX11_keptOf_L4 s0) ((0 : Int32), (0 : Int32))).bind (fun o4 =>
some o4)
noncomputable def fX11_keptWith (p1 : Int32) (s0 : Rc) : Option (Int32 × Rc) :=
lt_ (ga s0 0 (2 : Int32).toNatClampNeg) (fun x1 =>
lt_ (sa s0 0 (upd (ga s0 0) (2 : Int32).toNatClampNeg p1)) (fun s0_2 =>
(fX11_keptOf s0_2).bind (fun r3 =>
lt_ (sa s0_2 0 (upd (ga s0_2 0) (2 : Int32).toNatClampNeg x1)) (fun s0_4 =>
some (r3, s0_4)))))
noncomputable def fX11_bestLaw_L4 (q4 : Int32 × Int32 × Rc) : Option ((Int32 × Int32 × Rc) ⊕ (Int32 × Rc)) :=
if (4 : Int32) ≤ q4.2.1 then (
some (.inr (q4.1, q4.2.2))) else (
(fX11_keptWith q4.2.1 q4.2.2).bind (fun r2 =>
(fX11_keptWith q4.1 r2.2).bind (fun r3 =>
if r2.1 ≤ r3.1 then (
some (.inl (q4.1, (q4.2.1 + (1 : Int32)), r3.2))) else (
some (.inl (q4.2.1, (q4.2.1 + (1 : Int32)), r3.2))))))
noncomputable def fX11_bestLaw (s0 : Rc) : Option (Int32 × Rc) :=
(loopF (fX11_bestLaw_L4) ((0 : Int32), (1 : Int32), s0)).bind (fun o4 =>
lt_ (fX11_gives o4.1 o4.2) (fun r5 =>
some (r5.1, r5.2)))
noncomputable def fX11_bits_L4 (q4 : Int32 × Int32) : Option ((Int32 × Int32) ⊕ Int32) :=
if q4.2 = (0 : Int32) then (
some (.inr q4.1)) else (
lt_ (q4.2 &&& (q4.2 - (1 : Int32))) (fun x2 =>
some (.inl ((q4.1 + (1 : Int32)), x2))))
noncomputable def fX11_bits (p1 : Int32) : Option (Int32) :=
(loopF (fX11_bits_L4) ((0 : Int32), p1)).bind (fun o4 =>
some o4)
noncomputable def fX11_bottom (s0 : Rc) : Int64 :=
(gl s0 4)
noncomputable def fX11_isFrom (p1 : Int64) (p2 : Int64) (p3 : Int64) : Int32 :=
if p1 < p2 then (
(0 : Int32)) else (
if p3 < p1 then (
(0 : Int32)) else (
(1 : Int32)))
noncomputable def fX11_is (p1 : Int32) (s0 : Rc) : Int32 × Rc :=
lt_ (si s0 2 p1) (fun s0_1 =>
if p1 = (0 : Int32) then (
((1 : Int32), s0_1)) else (
((0 : Int32), s0_1)))
noncomputable def fX11_brandy (p1 : Int32) (p2 : Int32) (s0 : Rc) : Option (Int32 × Rc) :=
if (fX11_isFarmer p1 s0) = (0 : Int32) then (
lt_ (fX11_is (1 : Int32) s0) (fun r3 =>
some (r3.1, r3.2))) else (
if (fX11_isFrom p2.toInt64 (0 : Int64) (16 : Int64)) = (0 : Int32) then (
lt_ (fX11_is (1 : Int32) s0) (fun r11 =>
some (r11.1, r11.2))) else (
gd (inb ((fX11_farmerRow (0 : Int32) p1) + (2 : Int32)) 6240) (
lt_ (sa s0 0 (upd (ga s0 0) ((fX11_farmerRow (0 : Int32) p1) + (2 : Int32)).toNatClampNeg p2)) (fun s0_8 =>
lt_ (fX11_is (0 : Int32) s0_8) (fun r9 =>
some (r9.1, r9.2))))))
noncomputable def fX11_clashes_L32 (p1 : Int32) (p2 : Int32) (s0 : Rc) (q32 : Int32 × Int32) : Option ((Int32 × Int32) ⊕ Int32) :=
if (ga s0 0 (1 : Int32).toNatClampNeg) ≤ q32.2 then (
some (.inr q32.1)) else (
(fX11_tellOf p1 q32.2 s0).bind (fun r9 =>
if r9 = (-1 : Int32) then (
lt_ (q32.1 + (0 : Int32)) (fun x11 =>
some (.inl (x11, (q32.2 + (1 : Int32)))))) else (
(fX11_tellOf p2 q32.2 s0).bind (fun r12 =>
(fX11_tellOf p1 q32.2 s0).bind (fun r13 =>
if r12 = ((1 : Int32) - r13) then (
lt_ (q32.1 + (1 : Int32)) (fun x16 =>
some (.inl (x16, (q32.2 + (1 : Int32)))))) else (
lt_ (q32.1 + (0 : Int32)) (fun x15 =>
some (.inl (x15, (q32.2 + (1 : Int32)))))))))))
noncomputable def fX11_clashes (p1 : Int32) (p2 : Int32) (s0 : Rc) : Option (Int32 × Rc) :=
if (fX11_isFarmer p1 s0) = (0 : Int32) then (
lt_ (fX11_refuse (1 : Int32) s0) (fun r3 =>
some (r3.1, r3.2))) else (
if (fX11_isFarmer p2 s0) = (0 : Int32) then (
lt_ (fX11_refuse (1 : Int32) s0) (fun r6 =>
some (r6.1, r6.2))) else (
if p1 = p2 then (
lt_ (fX11_refuse (1 : Int32) s0) (fun r18 =>
some (r18.1, r18.2))) else (
(loopF (fX11_clashes_L32 p1 p2 s0) ((0 : Int32), (0 : Int32))).bind (fun o32 =>
lt_ (fX11_gives o32 s0) (fun r17 =>
some (r17.1, r17.2))))))
noncomputable def fX11_cure (p1 : Int32) (p2 : Int32) (s0 : Rc) : Option (Int32 × Rc) :=
if (fX11_isFarmer p1 s0) = (0 : Int32) then (
lt_ (fX11_is (1 : Int32) s0) (fun r3 =>
some (r3.1, r3.2))) else (
if (fX11_isFrom p2.toInt64 (0 : Int64) (60 : Int64)) = (0 : Int32) then (
lt_ (fX11_is (1 : Int32) s0) (fun r11 =>
some (r11.1, r11.2))) else (
gd (inb ((fX11_farmerRow (0 : Int32) p1) + (4 : Int32)) 6240) (
lt_ (sa s0 0 (upd (ga s0 0) ((fX11_farmerRow (0 : Int32) p1) + (4 : Int32)).toNatClampNeg p2)) (fun s0_8 =>
lt_ (fX11_is (0 : Int32) s0_8) (fun r9 =>
some (r9.1, r9.2))))))
noncomputable def fX11_cut (p1 : Int64) (p2 : Int32) : Int64 :=
if p2 = (0 : Int32) then (
p1.toInt32.toInt8.toInt32.toInt64) else (
if p2 = (1 : Int32) then (
p1.toInt32.toInt16.toInt32.toInt64) else (
if p2 = (2 : Int32) then (
p1.toInt32.toInt64) else (
p1)))
noncomputable def fX11_dawns_L30 (q30 : Int32 × Rc) : Option ((Int32 × Rc) ⊕ Rc) :=
if (8 : Int32) ≤ q30.1 then (
some (.inr q30.2)) else (
gd (inb (fX11_twingeRow q30.1 (ga q30.2 0 (1 : Int32).toNatClampNeg)) 6240) (
lt_ (sa q30.2 0 (upd (ga q30.2 0) (fX11_twingeRow q30.1 (ga q30.2 0 (1 : Int32).toNatClampNeg)).toNatClampNeg (0 : Int32))) (fun s0_6 =>
some (.inl ((q30.1 + (1 : Int32)), s0_6)))))
noncomputable def fX11_dawns (p1 : Int32) (s0 : Rc) : Option (Int32 × Rc) :=
if (ga s0 0 (1 : Int32).toNatClampNeg) = (60 : Int32) then (
some ((0 : Int32), s0)) else (
gd (inb ((122 : Int32) + (ga s0 0 (1 : Int32).toNatClampNeg)) 6240) (
lt_ (sa s0 0 (upd (ga s0 0) ((122 : Int32) + (ga s0 0 (1 : Int32).toNatClampNeg)).toNatClampNeg p1)) (fun s0_3 =>
(loopF (fX11_dawns_L30) ((0 : Int32), s0_3)).bind (fun o30 =>
lt_ (sa o30 0 (upd (ga o30 0) (1 : Int32).toNatClampNeg ((ga o30 0 (1 : Int32).toNatClampNeg) + (1 : Int32)))) (fun s0_7 =>
some ((1 : Int32), s0_7))))))
noncomputable def fX11_day (p1 : Int32) (s0 : Rc) : Option (Int32 × Rc) :=
if (fX11_isFrom p1.toInt64 (0 : Int64) (2 : Int64)) = (0 : Int32) then (
lt_ (fX11_refuse (1 : Int32) s0) (fun r8 =>
some (r8.1, r8.2))) else (
(fX11_dawns p1 s0).bind (fun r3 =>
if r3.1 = (0 : Int32) then (
lt_ (fX11_refuse (4 : Int32) r3.2) (fun r6 =>
some (r6.1, r6.2))) else (
lt_ (fX11_gives (ga r3.2 0 (1 : Int32).toNatClampNeg) r3.2) (fun r7 =>
some (r7.1, r7.2)))))
noncomputable def fX11_dayComes (p1 : Int32) (s0 : Rc) : Option (Int32 × Rc) :=
(fX11_dawns p1 s0).bind (fun r1 =>
if r1.1 = (0 : Int32) then (
some ((0 : Int32), r1.2)) else (
lt_ (sa r1.2 34 (upd (ga r1.2 34) (1 : Int32).toNatClampNeg ((ga r1.2 34 (1 : Int32).toNatClampNeg) + (1 : Int32)))) (fun s0_4 =>
if p1 ≤ (0 : Int32) then (
lt_ (sa s0_4 34 (upd (ga s0_4 34) (2 : Int32).toNatClampNeg ((ga s0_4 34 (2 : Int32).toNatClampNeg) + (0 : Int32)))) (fun s0_6 =>
some ((1 : Int32), s0_6))) else (
lt_ (sa s0_4 34 (upd (ga s0_4 34) (2 : Int32).toNatClampNeg ((ga s0_4 34 (2 : Int32).toNatClampNeg) + (1 : Int32)))) (fun s0_7 =>
some ((1 : Int32), s0_7))))))
noncomputable def fX11_dislikes (p1 : Int32) (p2 : Int32) (s0 : Rc) : Option (Int32 × Rc) :=
if (fX11_isFarmer p1 s0) = (0 : Int32) then (
lt_ (fX11_refuse (1 : Int32) s0) (fun r3 =>
some (r3.1, r3.2))) else (
if (fX11_isFarmer p2 s0) = (0 : Int32) then (
lt_ (fX11_refuse (1 : Int32) s0) (fun r6 =>
some (r6.1, r6.2))) else (
gd (inb (((58 : Int32) + ((8 : Int32) * p1)) + p2) 6240) (
lt_ (fX11_gives (ga s0 0 (((58 : Int32) + ((8 : Int32) * p1)) + p2).toNatClampNeg) s0) (fun r8 =>
some (r8.1, r8.2)))))
noncomputable def fX11_draw (p1 : Int32) (s0 : Rc) : Option (Int32 × Rc) :=
lt_ (si s0 24 ((((gi s0 24) * (2857 : Int32)) + (11059 : Int32)) - (((gi s0 24) * (2857 : Int32)) + (11059 : Int32)) / (65536 : Int32) * (65536 : Int32))) (fun s0_1 =>
gd (nz32 p1) (
some ((((gi s0_1 24) / (8 : Int32)) - ((gi s0_1 24) / (8 : Int32)) / p1 * p1), s0_1)))
noncomputable def fX11_feels_J111 (q16 : Int32 × Int32 × Rc) (y111_5 : Int32) (z111_0 : Int32) (z111_1 : Int32) (t111_0 : Rc) : Option ((Int32 × Int32 × Rc) ⊕ (Int32 × Rc)) :=
gd (inb z111_1 6240) (
lt_ (sa t111_0 0 (upd (ga t111_0 0) z111_1.toNatClampNeg z111_0)) (fun s0_3 =>
if y111_5 = (0 : Int32) then (
lt_ (q16.1 + (0 : Int32)) (fun x5 =>
some (.inl (x5, (q16.2.1 + (1 : Int32)), s0_3)))) else (
lt_ (q16.1 + (1 : Int32)) (fun x6 =>
some (.inl (x6, (q16.2.1 + (1 : Int32)), s0_3))))))
noncomputable def fX11_feels_J90 (q4 : Int32 × Int32 × Rc) (q16 : Int32 × Int32 × Rc) (z90_0 : Int32) (t90_0 : Rc) : Option ((Int32 × Int32 × Rc) ⊕ (Int32 × Rc)) :=
if z90_0 = (0 : Int32) then (
fX11_feels_J111 q16 z90_0 (0 : Int32) (fX11_twingeRow q4.2.1 q16.2.1) t90_0) else (
fX11_feels_J111 q16 z90_0 (1 : Int32) (fX11_twingeRow q4.2.1 q16.2.1) t90_0)
noncomputable def fX11_feels_L16 (q4 : Int32 × Int32 × Rc) (q16 : Int32 × Int32 × Rc) : Option ((Int32 × Int32 × Rc) ⊕ (Int32 × Rc)) :=
if (ga q16.2.2 0 (1 : Int32).toNatClampNeg) ≤ q16.2.1 then (
some (.inr (q16.1, q16.2.2))) else (
(fX11_draw (16 : Int32) q16.2.2).bind (fun r9 =>
(fX11_shouldFeel q4.2.1 q16.2.1 r9.2).bind (fun r10 =>
if r10 = (0 : Int32) then (
gd (inb ((fX11_farmerRow (0 : Int32) q4.2.1) + (2 : Int32)) 6240) (
if (ga r9.2 0 ((fX11_farmerRow (0 : Int32) q4.2.1) + (2 : Int32)).toNatClampNeg) ≤ r9.1 then (
fX11_feels_J90 q4 q16 (0 : Int32) r9.2) else (
fX11_feels_J90 q4 q16 (1 : Int32) r9.2))) else (
gd (inb ((fX11_farmerRow (0 : Int32) q4.2.1) + (1 : Int32)) 6240) (
if r9.1 < (ga r9.2 0 ((fX11_farmerRow (0 : Int32) q4.2.1) + (1 : Int32)).toNatClampNeg) then (
fX11_feels_J90 q4 q16 (0 : Int32) r9.2) else (
fX11_feels_J90 q4 q16 (1 : Int32) r9.2))))))
noncomputable def fX11_feels_L4 (q4 : Int32 × Int32 × Rc) : Option ((Int32 × Int32 × Rc) ⊕ (Int32 × Rc)) :=
if (ga q4.2.2 0 (0 : Int32).toNatClampNeg) ≤ q4.2.1 then (
some (.inr (q4.1, q4.2.2))) else (
(loopF (fX11_feels_L16 q4) (q4.1, (0 : Int32), q4.2.2)).bind (fun o16 =>
some (.inl (o16.1, (q4.2.1 + (1 : Int32)), o16.2))))
noncomputable def fX11_feels (s0 : Rc) : Option (Int32 × Rc) :=
(loopF (fX11_feels_L4) ((0 : Int32), (0 : Int32), s0)).bind (fun o4 =>
some (o4.1, o4.2))
noncomputable def fX11_turnsRound (p1 : Int32) (p2 : Int32) (s0 : Rc) : Option (Int32 × Rc) :=
gd (inb (fX11_twingeRow p1 p2) 6240) (
lt_ (sa s0 0 (upd (ga s0 0) (fX11_twingeRow p1 p2).toNatClampNeg ((1 : Int32) - (ga s0 0 (fX11_twingeRow p1 p2).toNatClampNeg)))) (fun s0_2 =>
some ((ga s0_2 0 (fX11_twingeRow p1 p2).toNatClampNeg), s0_2)))
noncomputable def fX11_isRight_J20 (z20_0 : Int32) (z20_1 : Int32) : Option (Int32) :=
if z20_1 = z20_0 then (
some (1 : Int32)) else (
some (0 : Int32))
noncomputable def fX11_isRight (p1 : Int32) (p2 : Int32) (s0 : Rc) : Option (Int32) :=
(fX11_tellOf p1 p2 s0).bind (fun r2 =>
(fX11_comesFor p1 p2 s0).bind (fun r3 =>
if r3 = (0 : Int32) then (
fX11_isRight_J20 (0 : Int32) r2) else (
fX11_isRight_J20 (1 : Int32) r2)))
noncomputable def fX11_learns_L4 (p1 : Int32) (q4 : Int32 × Int32 × Rc) : Option ((Int32 × Int32 × Rc) ⊕ (Int32 × Rc)) :=
if (ga q4.2.2 0 (0 : Int32).toNatClampNeg) ≤ q4.2.1 then (
some (.inr (q4.1, q4.2.2))) else (
(fX11_tellOf q4.2.1 p1 q4.2.2).bind (fun r2 =>
if r2 = (-1 : Int32) then (
some (.inl (q4.1, (q4.2.1 + (1 : Int32)), q4.2.2))) else (
(fX11_isRight q4.2.1 p1 q4.2.2).bind (fun r4 =>
if r4 = (0 : Int32) then (
lt_ ((fX11_farmerRow (0 : Int32) q4.2.1) + (5 : Int32)) (fun x7 =>
gd (inb x7 6240) (
lt_ (sa q4.2.2 0 (upd (ga q4.2.2 0) x7.toNatClampNeg (if (1 : Int32) < ((ga q4.2.2 0 x7.toNatClampNeg) / (2 : Int32)) then ((ga q4.2.2 0 x7.toNatClampNeg) / (2 : Int32)) else (1 : Int32)))) (fun s0_9 =>
some (.inl ((q4.1 + (1 : Int32)), (q4.2.1 + (1 : Int32)), s0_9)))))) else (
some (.inl (q4.1, (q4.2.1 + (1 : Int32)), q4.2.2)))))))
noncomputable def fX11_learns (p1 : Int32) (s0 : Rc) : Option (Int32 × Rc) :=
(loopF (fX11_learns_L4 p1) ((0 : Int32), (0 : Int32), s0)).bind (fun o4 =>
some (o4.1, o4.2))
noncomputable def fX11_does (p1 : Int32) (s0 : Rc) : Option (Int32 × Rc) :=
gd (inb (p1 + (1 : Int32)) 6240) (
lt_ (ga s0 0 (p1 + (1 : Int32)).toNatClampNeg) (fun x2 =>
gd (inb (p1 + (2 : Int32)) 6240) (
lt_ (ga s0 0 (p1 + (2 : Int32)).toNatClampNeg) (fun x4 =>
gd (inb p1 6240) (
if (ga s0 0 p1.toNatClampNeg) = (14 : Int32) then (
(fX11_draw (16 : Int32) s0).bind (fun r7 =>
if x2 ≤ r7.1 then (
(fX11_dayComes (0 : Int32) r7.2).bind (fun r9 =>
some (r9.1, r9.2))) else (
(fX11_dayComes (1 : Int32) r7.2).bind (fun r11 =>
some (r11.1, r11.2))))) else (
if (ga s0 0 p1.toNatClampNeg) = (15 : Int32) then (
(fX11_dayComes (2 : Int32) s0).bind (fun r14 =>
some (r14.1, r14.2))) else (
if (ga s0 0 p1.toNatClampNeg) = (16 : Int32) then (
(fX11_dayComes (0 : Int32) s0).bind (fun r17 =>
some (r17.1, r17.2))) else (
if (ga s0 0 p1.toNatClampNeg) = (17 : Int32) then (
(fX11_feels s0).bind (fun r20 =>
if r20.1 < (0 : Int32) then (
some ((0 : Int32), r20.2)) else (
some ((1 : Int32), r20.2)))) else (
if (ga s0 0 p1.toNatClampNeg) = (18 : Int32) then (
if (fX11_isDay x4 s0) = (0 : Int32) then (
some ((0 : Int32), s0)) else (
(fX11_turnsRound x2 x4 s0).bind (fun r25 =>
if r25.1 < (0 : Int32) then (
some ((0 : Int32), r25.2)) else (
some ((1 : Int32), r25.2))))) else (
if (ga s0 0 p1.toNatClampNeg) = (19 : Int32) then (
gd (inb ((fX11_farmerRow (0 : Int32) x2) + (4 : Int32)) 6240) (
lt_ (sa s0 0 (upd (ga s0 0) ((fX11_farmerRow (0 : Int32) x2) + (4 : Int32)).toNatClampNeg x4)) (fun s0_29 =>
some ((1 : Int32), s0_29)))) else (
if (ga s0 0 p1.toNatClampNeg) = (20 : Int32) then (
gd (inb ((fX11_farmerRow (0 : Int32) x2) + (2 : Int32)) 6240) (
lt_ (sa s0 0 (upd (ga s0 0) ((fX11_farmerRow (0 : Int32) x2) + (2 : Int32)).toNatClampNeg x4)) (fun s0_32 =>
some ((1 : Int32), s0_32)))) else (
if (ga s0 0 p1.toNatClampNeg) = (21 : Int32) then (
if (fX11_isDay x2 s0) = (0 : Int32) then (
some ((0 : Int32), s0)) else (
(fX11_learns x2 s0).bind (fun r36 =>
if r36.1 < (0 : Int32) then (
some ((0 : Int32), r36.2)) else (
some ((1 : Int32), r36.2))))) else (
some ((1 : Int32), s0))))))))))))))
noncomputable def fX11_farmer_L95 (p1 : Int32) (s0 : Rc) (q95 : Int32 × Int32) : Option ((Int32 × Int32) ⊕ Int32) :=
if (ga s0 0 (1 : Int32).toNatClampNeg) ≤ q95.2 then (
some (.inr q95.1)) else (
gd (inb (fX11_twingeRow p1 q95.2) 6240) (
lt_ (q95.1 + (ga s0 0 (fX11_twingeRow p1 q95.2).toNatClampNeg)) (fun x12 =>
some (.inl (x12, (q95.2 + (1 : Int32)))))))
noncomputable def fX11_farmer (p1 : Int32) (p2 : Int32) (s0 : Rc) : Option (Int32 × Rc) :=
if (fX11_isFarmer p1 s0) = (0 : Int32) then (
lt_ (fX11_refuse (1 : Int32) s0) (fun r3 =>
some (r3.1, r3.2))) else (
if p2 < (0 : Int32) then (
lt_ (fX11_refuse (1 : Int32) s0) (fun r5 =>
some (r5.1, r5.2))) else (
if p2 ≤ (6 : Int32) then (
lt_ (fX11_farmerRow (0 : Int32) p1) (fun x7 =>
if p2 = (4 : Int32) then (
gd (inb (x7 + (4 : Int32)) 6240) (
if (ga s0 0 (x7 + (4 : Int32)).toNatClampNeg) = (1000000 : Int32) then (
lt_ (fX11_refuse (6 : Int32) s0) (fun r19 =>
some (r19.1, r19.2))) else (
lt_ (fX11_gives (ga s0 0 (x7 + (4 : Int32)).toNatClampNeg) s0) (fun r18 =>
some (r18.1, r18.2))))) else (
if (6 : Int32) ≤ p2 then (
(loopF (fX11_farmer_L95 p1 s0) ((0 : Int32), (0 : Int32))).bind (fun o95 =>
lt_ (fX11_gives o95 s0) (fun r13 =>
some (r13.1, r13.2)))) else (
gd (inb (x7 + p2) 6240) (
lt_ (fX11_gives (ga s0 0 (x7 + p2).toNatClampNeg) s0) (fun r15 =>
some (r15.1, r15.2))))))) else (
lt_ (fX11_refuse (1 : Int32) s0) (fun r20 =>
some (r20.1, r20.2)))))
noncomputable def fX11_farmerTo (p1 : Int32) (s0 : Rc) : Option (Int32 × Rc) :=
(fX11_oldOne (0 : Int32) (ga s0 0 (0 : Int32).toNatClampNeg) p1 s0).bind (fun r1 =>
some (r1.1, r1.2))
noncomputable def fX11_fault (p1 : Int32) (s0 : Rc) : Int32 :=
if p1 = (0 : Int32) then (
(gi s0 16)) else (
if p1 = (1 : Int32) then (
(gi s0 17)) else (
(-1 : Int32)))
noncomputable def fX11_four_L3 (p1 : Int32) (q3 : Int32 × Rc) : Option ((Int32 × Rc) ⊕ Rc) :=
if q3.1 < (0 : Int32) then (
some (.inr q3.2)) else (
gd (inb (gi q3.2 10) 900) (
lt_ (sa q3.2 8 (upd (ga q3.2 8) (gi q3.2 10).toNatClampNeg (vp_nar .byte ((p1 >>> (q3.1 &&& 31)).toInt8.toInt32)))) (fun s0_3 =>
lt_ (si s0_3 10 ((gi s0_3 10) + (1 : Int32))) (fun s0_4 =>
some (.inl ((q3.1 + (-8 : Int32)), s0_4))))))
noncomputable def fX11_four (p1 : Int32) (s0 : Rc) : Option (Rc) :=
(loopF (fX11_four_L3 p1) ((24 : Int32), s0)).bind (fun o3 =>
some o3)
noncomputable def fX11_feed (p1 : Int32) (p2 : Int32) (p3 : Int32) (p4 : Int32) (p5 : Int32) (s0 : Rc) : Option (Int32 × Rc) :=
if ((gi s0 10) + (20 : Int32)) ≤ (900 : Int32) then (
(fX11_four p1 s0).bind (fun r2 =>
(fX11_four p2 r2).bind (fun r3 =>
(fX11_four p3 r3).bind (fun r4 =>
(fX11_four p4 r4).bind (fun r5 =>
(fX11_four p5 r5).bind (fun r6 =>
some ((gi r6 10), r6))))))) else (
some ((-1 : Int32), s0))
noncomputable def fX11_feel (p1 : Int32) (s0 : Rc) : Option (Int32 × Rc) :=
if (fX11_isFrom p1.toInt64 (0 : Int64) (9999 : Int64)) = (0 : Int32) then (
lt_ (fX11_refuse (1 : Int32) s0) (fun r6 =>
some (r6.1, r6.2))) else (
lt_ (si s0 24 p1) (fun s0_3 =>
(fX11_feels s0_3).bind (fun r4 =>
lt_ (fX11_gives r4.1 r4.2) (fun r5 =>
some (r5.1, r5.2)))))
noncomputable def fX11_orNone (p1 : Int32) (s0 : Rc) : Int32 × Rc :=
if p1 = (-1 : Int32) then (
lt_ (fX11_refuse (6 : Int32) s0) (fun r3 =>
(r3.1, r3.2))) else (
lt_ (fX11_gives p1 s0) (fun r2 =>
(r2.1, r2.2)))
noncomputable def fX11_fever_L22 (s0 : Rc) (q6 : Int32 × Int32 × Int32) (q22 : Int32 × Int32) : Option ((Int32 × Int32) ⊕ Int32) :=
if (ga s0 0 (0 : Int32).toNatClampNeg) ≤ q22.2 then (
some (.inr q22.1)) else (
gd (inb (fX11_twingeRow q22.2 q6.2.2) 6240) (
lt_ (q22.1 + (ga s0 0 (fX11_twingeRow q22.2 q6.2.2).toNatClampNeg)) (fun x4 =>
some (.inl (x4, (q22.2 + (1 : Int32)))))))
noncomputable def fX11_fever_L6 (s0 : Rc) (q6 : Int32 × Int32 × Int32) : Option ((Int32 × Int32 × Int32) ⊕ Int32) :=
if (ga s0 0 (1 : Int32).toNatClampNeg) ≤ q6.2.2 then (
some (.inr q6.1)) else (
(loopF (fX11_fever_L22 s0 q6) ((0 : Int32), (0 : Int32))).bind (fun o22 =>
if q6.2.1 < o22 then (
some (.inl (q6.2.2, o22, (q6.2.2 + (1 : Int32))))) else (
some (.inl (q6.1, q6.2.1, (q6.2.2 + (1 : Int32)))))))
noncomputable def fX11_fever (s0 : Rc) : Option (Int32 × Rc) :=
(loopF (fX11_fever_L6 s0) ((-1 : Int32), (-1 : Int32), (0 : Int32))).bind (fun o6 =>
lt_ (fX11_orNone o6 s0) (fun r6 =>
some (r6.1, r6.2)))
noncomputable def fX11_isEnough_J89 (s0 : Rc) (q5 : Int32 × Int32) (y89_5 : Int32) : Option ((Int32 × Int32) ⊕ ((Unit) ⊕ (Int32))) :=
(fX11_isWet q5.2 s0).bind (fun r1 =>
if r1 = (0 : Int32) then (
if y89_5 = (0 : Int32) then (
lt_ (q5.1 + (0 : Int32)) (fun x6 =>
some (.inl (x6, (q5.2 + (1 : Int32)))))) else (
lt_ (q5.1 + (1 : Int32)) (fun x7 =>
some (.inl (x7, (q5.2 + (1 : Int32))))))) else (
lt_ (q5.1 + (0 : Int32)) (fun x4 =>
some (.inl (x4, (q5.2 + (1 : Int32)))))))
noncomputable def fX11_isEnough_L22 (p1 : Int32) (s0 : Rc) (q5 : Int32 × Int32) (q22 : Int32 × Int32) : Option ((Int32 × Int32) ⊕ Int32) :=
if (ga s0 0 (0 : Int32).toNatClampNeg) ≤ q22.2 then (
some (.inr q22.1)) else (
if q22.1 = (0 : Int32) then (
if ((p1 >>> (q22.2 &&& 31)) &&& (1 : Int32)) = (1 : Int32) then (
(fX11_tellOf q22.2 q5.2 s0).bind (fun r12 =>
if r12 = (1 : Int32) then (
some (.inl ((1 : Int32), (q22.2 + (1 : Int32))))) else (
some (.inl ((0 : Int32), (q22.2 + (1 : Int32))))))) else (
some (.inl ((0 : Int32), (q22.2 + (1 : Int32)))))) else (
some (.inl ((1 : Int32), (q22.2 + (1 : Int32))))))
noncomputable def fX11_isEnough_L5 (p1 : Int32) (s0 : Rc) (q5 : Int32 × Int32) : Option ((Int32 × Int32) ⊕ ((Unit) ⊕ (Int32))) :=
if (ga s0 0 (1 : Int32).toNatClampNeg) ≤ q5.2 then (
some (.inr (.inr q5.1))) else (
(loopF (fX11_isEnough_L22 p1 s0 q5) ((0 : Int32), (0 : Int32))).bind (fun o22 =>
(fX11_isWet q5.2 s0).bind (fun r14 =>
if r14 = (0 : Int32) then (
fX11_isEnough_J89 s0 q5 o22) else (
if o22 = (0 : Int32) then (
some (.inr (.inl ()))) else (
fX11_isEnough_J89 s0 q5 o22)))))
noncomputable def fX11_isEnough (p1 : Int32) (p2 : Int32) (s0 : Rc) : Option (Int32) :=
(loopF (fX11_isEnough_L5 p1 s0) ((0 : Int32), (0 : Int32))).bind (fun o5 =>
Sum.elim (fun o5a =>
some (0 : Int32)) (fun o5b =>
if p2 < o5b then (
some (0 : Int32)) else (
some (1 : Int32))) o5)
noncomputable def fX11_fewest_J50 (p1 : Int32) (s0 : Rc) (q22 : Int32 × Int32) : Option ((Int32 × Int32) ⊕ Int32) :=
(fX11_isEnough q22.2 p1 s0).bind (fun r3 =>
if r3 = (0 : Int32) then (
some (.inl (q22.1, (q22.2 + (1 : Int32))))) else (
some (.inl (q22.2, (q22.2 + (1 : Int32))))))
noncomputable def fX11_fewest_L22 (p1 : Int32) (s0 : Rc) (q22 : Int32 × Int32) : Option ((Int32 × Int32) ⊕ Int32) :=
if ((1 : Int32) <<< ((ga s0 0 (0 : Int32).toNatClampNeg) &&& 31)) ≤ q22.2 then (
some (.inr q22.1)) else (
if q22.1 = (-1 : Int32) then (
fX11_fewest_J50 p1 s0 q22) else (
(fX11_bits q22.2).bind (fun r8 =>
(fX11_bits q22.1).bind (fun r9 =>
if r9 ≤ r8 then (
some (.inl (q22.1, (q22.2 + (1 : Int32))))) else (
fX11_fewest_J50 p1 s0 q22)))))
noncomputable def fX11_fewest (p1 : Int32) (s0 : Rc) : Option (Int32 × Rc) :=
if (fX11_isFrom p1.toInt64 (0 : Int64) (60 : Int64)) = (0 : Int32) then (
lt_ (fX11_refuse (1 : Int32) s0) (fun r12 =>
some (r12.1, r12.2))) else (
(loopF (fX11_fewest_L22 p1 s0) ((-1 : Int32), (0 : Int32))).bind (fun o22 =>
lt_ (fX11_orNone o22 s0) (fun r11 =>
some (r11.1, r11.2))))
noncomputable def fX11_fitsOf_L5 (p1 : Int32) (p2 : Int32) (s0 : Rc) (q5 : Int32 × Int32) : Option ((Int32 × Int32) ⊕ Int32) :=
if (ga s0 0 (1 : Int32).toNatClampNeg) ≤ q5.2 then (
some (.inr q5.1)) else (
if (fX11_isDay (q5.2 + p2) s0) = (0 : Int32) then (
lt_ (q5.1 + (0 : Int32)) (fun x4 =>
some (.inl (x4, (q5.2 + (1 : Int32)))))) else (
(fX11_felt p1 q5.2 s0).bind (fun r5 =>
(fX11_comesFor p1 (q5.2 + p2) s0).bind (fun r7 =>
if r5 = r7 then (
lt_ (q5.1 + (1 : Int32)) (fun x11 =>
some (.inl (x11, (q5.2 + (1 : Int32)))))) else (
lt_ (q5.1 + (0 : Int32)) (fun x10 =>
some (.inl (x10, (q5.2 + (1 : Int32))))))))))
noncomputable def fX11_fitsOf (p1 : Int32) (p2 : Int32) (s0 : Rc) : Option (Int32) :=
(loopF (fX11_fitsOf_L5 p1 p2 s0) ((0 : Int32), (0 : Int32))).bind (fun o5 =>
some o5)
noncomputable def fX11_fits (p1 : Int32) (p2 : Int32) (s0 : Rc) : Option (Int32 × Rc) :=
if (fX11_isFarmer p1 s0) = (0 : Int32) then (
lt_ (fX11_refuse (1 : Int32) s0) (fun r3 =>
some (r3.1, r3.2))) else (
if (fX11_isFrom p2.toInt64 (-3 : Int64) (3 : Int64)) = (0 : Int32) then (
lt_ (fX11_refuse (1 : Int32) s0) (fun r6 =>
some (r6.1, r6.2))) else (
(fX11_fitsOf p1 p2 s0).bind (fun r7 =>
lt_ (fX11_gives r7 s0) (fun r8 =>
some (r8.1, r8.2)))))
noncomputable def fX11_isTurned (p1 : Int32) (p2 : Int32) (s0 : Rc) : Option (Int32 × Rc) :=
(fX11_sayOf p2 s0).bind (fun r1 =>
lt_ (si s0 26 p1) (fun s0_2 =>
(fX11_sayOf p2 s0_2).bind (fun r3 =>
if r3 = r1 then (
lt_ (si s0_2 26 (0 : Int32)) (fun s0_5 =>
some ((0 : Int32), s0_5))) else (
lt_ (si s0_2 26 (0 : Int32)) (fun s0_6 =>
some ((1 : Int32), s0_6))))))
noncomputable def fX11_flips_L33 (p1 : Int32) (s0 : Rc) (q33 : Int32 × Int32) : Option ((Int32 × Int32) ⊕ Int32) :=
if (ga s0 0 (0 : Int32).toNatClampNeg) ≤ q33.2 then (
some (.inr q33.1)) else (
(fX11_tellOf q33.2 p1 s0).bind (fun r6 =>
if r6 = (-1 : Int32) then (
lt_ (q33.1 ||| (0 : Int32)) (fun x8 =>
some (.inl (x8, (q33.2 + (1 : Int32)))))) else (
lt_ (q33.1 ||| ((1 : Int32) <<< (q33.2 &&& 31))) (fun x9 =>
some (.inl (x9, (q33.2 + (1 : Int32))))))))
noncomputable def fX11_flips_L75 (p1 : Int32) (o33 : Int32) (q75 : Int32 × Int32 × Rc) : Option ((Int32 × Int32 × Rc) ⊕ (Int32 × Rc)) :=
if ((1 : Int32) <<< ((ga q75.2.2 0 (0 : Int32).toNatClampNeg) &&& 31)) ≤ q75.2.1 then (
some (.inr (q75.1, q75.2.2))) else (
if (q75.2.1 &&& (o33 ^^^ (-1 : Int32))) = (0 : Int32) then (
(fX11_bits q75.2.1).bind (fun r12 =>
if q75.1 ≤ r12 then (
some (.inl (q75.1, (q75.2.1 + (1 : Int32)), q75.2.2))) else (
(fX11_isTurned q75.2.1 p1 q75.2.2).bind (fun r14 =>
if r14.1 = (0 : Int32) then (
some (.inl (q75.1, (q75.2.1 + (1 : Int32)), r14.2))) else (
(fX11_bits q75.2.1).bind (fun r17 =>
some (.inl (r17, (q75.2.1 + (1 : Int32)), r14.2)))))))) else (
some (.inl (q75.1, (q75.2.1 + (1 : Int32)), q75.2.2))))
noncomputable def fX11_flips (p1 : Int32) (s0 : Rc) : Option (Int32 × Rc) :=
if (fX11_isAsked p1) = (0 : Int32) then (
lt_ (fX11_refuse (1 : Int32) s0) (fun r20 =>
some (r20.1, r20.2))) else (
(fX11_sayOf p1 s0).bind (fun r3 =>
if r3 = (-1 : Int32) then (
lt_ (fX11_refuse (6 : Int32) s0) (fun r19 =>
some (r19.1, r19.2))) else (
(loopF (fX11_flips_L33 p1 s0) ((0 : Int32), (0 : Int32))).bind (fun o33 =>
(loopF (fX11_flips_L75 p1 o33) ((8 : Int32), (1 : Int32), s0)).bind (fun o75 =>
lt_ (fX11_gives o75.1 o75.2) (fun r18 =>
some (r18.1, r18.2)))))))
noncomputable def fX11_foe_L21 (p1 : Int32) (s0 : Rc) (q21 : Int32 × Int32 × Int32) : Option ((Int32 × Int32 × Int32) ⊕ Int32) :=
if (ga s0 0 (0 : Int32).toNatClampNeg) ≤ q21.2.2 then (
some (.inr q21.1)) else (
gd (inb (((58 : Int32) + ((8 : Int32) * p1)) + q21.2.2) 6240) (
if q21.2.1 < (ga s0 0 (((58 : Int32) + ((8 : Int32) * p1)) + q21.2.2).toNatClampNeg) then (
lt_ (ga s0 0 (((58 : Int32) + ((8 : Int32) * p1)) + q21.2.2).toNatClampNeg) (fun x6 =>
some (.inl (q21.2.2, x6, (q21.2.2 + (1 : Int32)))))) else (
some (.inl (q21.1, q21.2.1, (q21.2.2 + (1 : Int32)))))))
noncomputable def fX11_foe (p1 : Int32) (s0 : Rc) : Option (Int32 × Rc) :=
if (fX11_isFarmer p1 s0) = (0 : Int32) then (
lt_ (fX11_refuse (1 : Int32) s0) (fun r8 =>
some (r8.1, r8.2))) else (
(loopF (fX11_foe_L21 p1 s0) ((-1 : Int32), (0 : Int32), (0 : Int32))).bind (fun o21 =>
lt_ (fX11_orNone o21 s0) (fun r7 =>
some (r7.1, r7.2))))
noncomputable def fX11_weighs_J101 (q17 : Int32 × Rc) (y101_4 : Int32) (y101_5 : Int32) (z101_0 : Int64) (z101_1 : Int64) : Option ((Int32 × Rc) ⊕ Rc) :=
lt_ (sl q17.2 27 (z101_1 * z101_0)) (fun s0_3 =>
if y101_5 = (1 : Int32) then (
gd (inb (y101_4 + (2 : Int32)) 6240) (
lt_ (sl s0_3 28 ((gl s0_3 28) * ((ga s0_3 0 (y101_4 + (2 : Int32)).toNatClampNeg).toInt64))) (fun s0_8 =>
some (.inl ((q17.1 + (1 : Int32)), s0_8))))) else (
gd (inb (y101_4 + (2 : Int32)) 6240) (
lt_ (sl s0_3 28 ((gl s0_3 28) * (((16 : Int32) - (ga s0_3 0 (y101_4 + (2 : Int32)).toNatClampNeg)).toInt64))) (fun s0_6 =>
some (.inl ((q17.1 + (1 : Int32)), s0_6))))))
noncomputable def fX11_weighs_L17 (p1 : Int32) (q17 : Int32 × Rc) : Option ((Int32 × Rc) ⊕ Rc) :=
if (ga q17.2 0 (0 : Int32).toNatClampNeg) ≤ q17.1 then (
some (.inr q17.2)) else (
lt_ (fX11_farmerRow (0 : Int32) q17.1) (fun x10 =>
(fX11_tellOf q17.1 p1 q17.2).bind (fun r11 =>
if r11 = (-1 : Int32) then (
some (.inl ((q17.1 + (1 : Int32)), q17.2))) else (
gd (inb (x10 + (3 : Int32)) 6240) (
if (ga q17.2 0 (x10 + (3 : Int32)).toNatClampNeg) = (1 : Int32) then (
some (.inl ((q17.1 + (1 : Int32)), q17.2))) else (
if r11 = (1 : Int32) then (
gd (inb (x10 + (1 : Int32)) 6240) (
fX11_weighs_J101 q17 x10 r11 (((16 : Int32) - (ga q17.2 0 (x10 + (1 : Int32)).toNatClampNeg)).toInt64) (gl q17.2 27))) else (
gd (inb (x10 + (1 : Int32)) 6240) (
fX11_weighs_J101 q17 x10 r11 ((ga q17.2 0 (x10 + (1 : Int32)).toNatClampNeg).toInt64) (gl q17.2 27)))))))))
noncomputable def fX11_weighs (p1 : Int32) (p2 : Int32) (s0 : Rc) : Option (Rc) :=
lt_ (sl s0 27 p2.toInt64) (fun s0_1 =>
lt_ (sl s0_1 28 (((16 : Int32) - p2).toInt64)) (fun s0_2 =>
(loopF (fX11_weighs_L17 p1) ((0 : Int32), s0_2)).bind (fun o17 =>
some o17)))
noncomputable def fX11_tellsBy_L6 (q6 : Int64 × Int64) : Option ((Int64 × Int64) ⊕ Int64) :=
if q6.2 = (0 : Int64) then (
some (.inr q6.1)) else (
gd (nz64 q6.2) (
lt_ (q6.1 - q6.1 / q6.2 * q6.2) (fun x3 =>
some (.inl (q6.2, x3)))))
noncomputable def fX11_tellsBy (p1 : Int64) (p2 : Int64) (s0 : Rc) : Option (Int32 × Rc) :=
(loopF (fX11_tellsBy_L6) (p1, p2)).bind (fun o6 =>
gd (nz64 o6) (
lt_ (sl s0 3 (p1 / o6)) (fun s0_5 =>
lt_ (sl s0_5 4 (p2 / o6)) (fun s0_6 =>
lt_ (fX11_is (0 : Int32) s0_6) (fun r7 =>
some (r7.1, r7.2))))))
noncomputable def fX11_hay_L56 (p1 : Int32) (p2 : Int32) (p3 : Int32) (q56 : Int64 × Int64 × Int32 × Rc) : Option ((Int64 × Int64 × Int32 × Rc) ⊕ ((Rc) ⊕ (Int64 × Int64 × Rc))) :=
if p2 ≤ q56.2.2.1 then (
some (.inr (.inr (q56.1, q56.2.1, q56.2.2.2)))) else (
(fX11_weighs (p1 + q56.2.2.1) p3 q56.2.2.2).bind (fun r15 =>
if ((gl r15 27) + (gl r15 28)) = (0 : Int64) then (
some (.inr (.inl r15))) else (
gd (nz64 ((gl r15 27) + (gl r15 28))) (
lt_ (q56.1 * (((gl r15 28) * (1000000 : Int64)) / ((gl r15 27) + (gl r15 28)))) (fun x18 =>
lt_ (q56.2.1 * (1000000 : Int64)) (fun x19 =>
some (.inl (x18, x19, (q56.2.2.1 + (1 : Int32)), r15))))))))
noncomputable def fX11_hay (p1 : Int32) (p2 : Int32) (p3 : Int32) (s0 : Rc) : Option (Int32 × Rc) :=
if (fX11_isAsked p1) = (0 : Int32) then (
lt_ (fX11_is (1 : Int32) s0) (fun r3 =>
some (r3.1, r3.2))) else (
if (fX11_isFrom p2.toInt64 (1 : Int64) (3 : Int64)) = (0 : Int32) then (
lt_ (fX11_is (1 : Int32) s0) (fun r7 =>
some (r7.1, r7.2))) else (
if (62 : Int32) < ((p1 + p2) - (1 : Int32)) then (
lt_ (fX11_is (1 : Int32) s0) (fun r10 =>
some (r10.1, r10.2))) else (
if (fX11_isFrom p3.toInt64 (1 : Int64) (15 : Int64)) = (0 : Int32) then (
lt_ (fX11_is (1 : Int32) s0) (fun r24 =>
some (r24.1, r24.2))) else (
(loopF (fX11_hay_L56 p1 p2 p3) ((1 : Int64), (1 : Int64), (0 : Int32), s0)).bind (fun o56 =>
Sum.elim (fun o56a =>
lt_ (fX11_is (7 : Int32) o56a) (fun r20 =>
some (r20.1, r20.2))) (fun o56b =>
(fX11_tellsBy o56b.1 o56b.2.1 o56b.2.2).bind (fun r22 =>
some (r22.1, r22.2))) o56)))))
noncomputable def fX11_holds_J73 (p1 : Int32) (s0 : Rc) (z73_0 : Int32) : Option (Int32) :=
gd (inb (p1 + (5 : Int32)) 6240) (
if (ga s0 0 (p1 + (5 : Int32)).toNatClampNeg) = (60 : Int32) then (
gd (inb (p1 + (2 : Int32)) 6240) (
if (ga s0 0 (p1 + (2 : Int32)).toNatClampNeg) ≤ z73_0 then (
some (0 : Int32)) else (
some (1 : Int32)))) else (
if (ga s0 0 (p1 + (5 : Int32)).toNatClampNeg) = (62 : Int32) then (
gd (inb (p1 + (2 : Int32)) 6240) (
if z73_0 ≤ (ga s0 0 (p1 + (2 : Int32)).toNatClampNeg) then (
some (0 : Int32)) else (
some (1 : Int32)))) else (
gd (inb (p1 + (2 : Int32)) 6240) (
if z73_0 = (ga s0 0 (p1 + (2 : Int32)).toNatClampNeg) then (
some (1 : Int32)) else (
some (0 : Int32))))))
noncomputable def fX11_holds (p1 : Int32) (s0 : Rc) : Option (Int32) :=
gd (inb p1 6240) (
lt_ ((ga s0 0 p1.toNatClampNeg) - (2300 : Int32)) (fun x11 =>
if x11 = (27 : Int32) then (
gd (inb (p1 + (1 : Int32)) 6240) (
(fX11_sayOf (ga s0 0 (p1 + (1 : Int32)).toNatClampNeg) s0).bind (fun r17 =>
if r17 = (1 : Int32) then (
some (1 : Int32)) else (
some (0 : Int32))))) else (
if x11 = (28 : Int32) then (
gd (inb (p1 + (1 : Int32)) 6240) (
gd (inb ((fX11_farmerRow (0 : Int32) (ga s0 0 (p1 + (1 : Int32)).toNatClampNeg)) + (5 : Int32)) 6240) (
fX11_holds_J73 p1 s0 (ga s0 0 ((fX11_farmerRow (0 : Int32) (ga s0 0 (p1 + (1 : Int32)).toNatClampNeg)) + (5 : Int32)).toNatClampNeg)))) else (
fX11_holds_J73 p1 s0 (ga s0 0 (1 : Int32).toNatClampNeg)))))
noncomputable def fX11_isIn (p1 : Int32) (p2 : Int32) (s0 : Rc) : Int32 :=
if (fX11_isFarmer p1 s0) = (0 : Int32) then (
(0 : Int32)) else (
if (fX11_isDay p2 s0) = (0 : Int32) then (
(0 : Int32)) else (
(1 : Int32)))
noncomputable def fX11_isSpan (p1 : Int32) (p2 : Int32) : Int32 :=
if (fX11_isAsked p1) = (0 : Int32) then (
(0 : Int32)) else (
if (fX11_isAsked p2) = (0 : Int32) then (
(0 : Int32)) else (
if p2 < p1 then (
(0 : Int32)) else (
(1 : Int32))))
noncomputable def fX11_isTray (p1 : Int32) : Int32 :=
if p1 < (0 : Int32) then (
(0 : Int32)) else (
if (4 : Int32) ≤ p1 then (
(0 : Int32)) else (
(1 : Int32)))
noncomputable def fX11_kept (s0 : Rc) : Option (Int32 × Rc) :=
(fX11_keptOf s0).bind (fun r1 =>
lt_ (fX11_gives r1 s0) (fun r2 =>
some (r2.1, r2.2)))
noncomputable def fX11_keptBy (p1 : Int32) (s0 : Rc) : Option (Int32 × Rc) :=
if (fX11_isFrom p1.toInt64 (0 : Int64) (3 : Int64)) = (0 : Int32) then (
lt_ (fX11_refuse (1 : Int32) s0) (fun r3 =>
some (r3.1, r3.2))) else (
(fX11_keptWith p1 s0).bind (fun r4 =>
lt_ (fX11_gives r4.1 r4.2) (fun r5 =>
some (r5.1, r5.2))))
noncomputable def fX11_lag_J42 (p1 : Int32) (s0 : Rc) (q18 : Int32 × Int32) (y42_2 : Int32) : Option ((Int32 × Int32) ⊕ Int32) :=
(fX11_fitsOf p1 q18.2 s0).bind (fun r3 =>
(fX11_fitsOf p1 y42_2 s0).bind (fun r4 =>
if r3 ≤ r4 then (
some (.inl (y42_2, (q18.2 + (1 : Int32))))) else (
some (.inl (q18.2, (q18.2 + (1 : Int32)))))))
noncomputable def fX11_lag_L18 (p1 : Int32) (s0 : Rc) (q18 : Int32 × Int32) : Option ((Int32 × Int32) ⊕ Int32) :=
if (3 : Int32) < q18.2 then (
some (.inr q18.1)) else (
(fX11_fitsOf p1 (-q18.2) s0).bind (fun r7 =>
(fX11_fitsOf p1 q18.1 s0).bind (fun r8 =>
if r7 ≤ r8 then (
fX11_lag_J42 p1 s0 q18 q18.1) else (
lt_ (-q18.2) (fun x10 =>
fX11_lag_J42 p1 s0 q18 x10)))))
noncomputable def fX11_lag (p1 : Int32) (s0 : Rc) : Option (Int32 × Rc) :=
if (fX11_isFarmer p1 s0) = (0 : Int32) then (
lt_ (fX11_refuse (1 : Int32) s0) (fun r12 =>
some (r12.1, r12.2))) else (
(loopF (fX11_lag_L18 p1 s0) ((0 : Int32), (1 : Int32))).bind (fun o18 =>
lt_ (fX11_gives o18 s0) (fun r11 =>
some (r11.1, r11.2))))
noncomputable def fX11_laysCosts_L45 (q13 : Int32 × Rc) (q19 : Int32 × Rc) (q45 : Int32 × Int32) : Option ((Int32 × Int32) ⊕ Int32) :=
if (ga q19.2 0 (0 : Int32).toNatClampNeg) ≤ q45.2 then (
some (.inr q45.1)) else (
if ((q13.1 >>> (q45.2 &&& 31)) &&& (1 : Int32)) = (0 : Int32) then (
gd (inb (((58 : Int32) + ((8 : Int32) * q19.1)) + q45.2) 6240) (
gd (inb (((8 : Int32) * (q13.1 ||| ((1 : Int32) <<< (q45.2 &&& 31)))) + q45.2) 2048) (
lt_ (if ((ga q19.2 0 (((58 : Int32) + ((8 : Int32) * q19.1)) + q45.2).toNatClampNeg) + (ga q19.2 29 (((8 : Int32) * (q13.1 ||| ((1 : Int32) <<< (q45.2 &&& 31)))) + q45.2).toNatClampNeg)) < q45.1 then ((ga q19.2 0 (((58 : Int32) + ((8 : Int32) * q19.1)) + q45.2).toNatClampNeg) + (ga q19.2 29 (((8 : Int32) * (q13.1 ||| ((1 : Int32) <<< (q45.2 &&& 31)))) + q45.2).toNatClampNeg)) else q45.1) (fun x7 =>
some (.inl (x7, (q45.2 + (1 : Int32)))))))) else (
some (.inl (q45.1, (q45.2 + (1 : Int32))))))
noncomputable def fX11_laysCosts_J40 (q13 : Int32 × Rc) (q19 : Int32 × Rc) (z40_0 : Int32) : Option ((Int32 × Rc) ⊕ Rc) :=
(loopF (fX11_laysCosts_L45 q13 q19) (z40_0, (0 : Int32))).bind (fun o45 =>
gd (inb (((8 : Int32) * q13.1) + q19.1) 2048) (
lt_ (sa q19.2 29 (upd (ga q19.2 29) (((8 : Int32) * q13.1) + q19.1).toNatClampNeg o45)) (fun s0_9 =>
some (.inl ((q19.1 + (1 : Int32)), s0_9)))))
noncomputable def fX11_laysCosts_L19 (x1 : Int32) (q13 : Int32 × Rc) (q19 : Int32 × Rc) : Option ((Int32 × Rc) ⊕ Rc) :=
if (ga q19.2 0 (0 : Int32).toNatClampNeg) ≤ q19.1 then (
some (.inr q19.2)) else (
if q13.1 = x1 then (
fX11_laysCosts_J40 q13 q19 (0 : Int32)) else (
fX11_laysCosts_J40 q13 q19 (1000000 : Int32)))
noncomputable def fX11_laysCosts_L13 (x1 : Int32) (q13 : Int32 × Rc) : Option ((Int32 × Rc) ⊕ Rc) :=
if q13.1 ≤ (0 : Int32) then (
some (.inr q13.2)) else (
(loopF (fX11_laysCosts_L19 x1 q13) ((0 : Int32), q13.2)).bind (fun o19 =>
some (.inl ((q13.1 + (-1 : Int32)), o19))))
noncomputable def fX11_laysCosts (s0 : Rc) : Option (Rc) :=
lt_ (((1 : Int32) <<< ((ga s0 0 (0 : Int32).toNatClampNeg) &&& 31)) - (1 : Int32)) (fun x1 =>
(loopF (fX11_laysCosts_L13 x1) (x1, s0)).bind (fun o13 =>
some o13))
noncomputable def fX11_learn (p1 : Int32) (s0 : Rc) : Option (Int32 × Rc) :=
if (fX11_isDay p1 s0) = (0 : Int32) then (
lt_ (fX11_refuse (1 : Int32) s0) (fun r3 =>
some (r3.1, r3.2))) else (
(fX11_learns p1 s0).bind (fun r4 =>
lt_ (fX11_gives r4.1 r4.2) (fun r5 =>
some (r5.1, r5.2))))
noncomputable def fX11_lie (p1 : Int32) (p2 : Int32) (s0 : Rc) : Option (Int32 × Rc) :=
if (fX11_isIn p1 p2 s0) = (0 : Int32) then (
lt_ (fX11_refuse (1 : Int32) s0) (fun r3 =>
some (r3.1, r3.2))) else (
(fX11_turnsRound p1 p2 s0).bind (fun r4 =>
lt_ (fX11_gives r4.1 r4.2) (fun r5 =>
some (r5.1, r5.2))))
noncomputable def fX11_lies_J85 (p1 : Int32) (r4 : Int32) (q39 : Int32 × Int32 × Rc) (y85_6 : Int32) (z85_0 : Int32) (t85_0 : Rc) : Option ((Int32 × Int32 × Rc) ⊕ (Int32 × Rc)) :=
if p1 = (1 : Int32) then (
if y85_6 ≤ r4 then (
lt_ (z85_0 + (0 : Int32)) (fun x9 =>
some (.inl (x9, (q39.2.1 + (1 : Int32)), t85_0)))) else (
lt_ (z85_0 + (1 : Int32)) (fun x10 =>
some (.inl (x10, (q39.2.1 + (1 : Int32)), t85_0))))) else (
lt_ (z85_0 + (0 : Int32)) (fun x7 =>
some (.inl (x7, (q39.2.1 + (1 : Int32)), t85_0))))
noncomputable def fX11_lies_L39 (p1 : Int32) (r4 : Int32) (q25 : Int32 × Int32 × Rc) (q39 : Int32 × Int32 × Rc) : Option ((Int32 × Int32 × Rc) ⊕ (Int32 × Rc)) :=
if (ga q39.2.2 0 (1 : Int32).toNatClampNeg) ≤ q39.2.1 then (
some (.inr (q39.1, q39.2.2))) else (
(fX11_turnsRound q25.2.1 q39.2.1 q39.2.2).bind (fun r12 =>
(fX11_keptOf r12.2).bind (fun r13 =>
(fX11_turnsRound q25.2.1 q39.2.1 r12.2).bind (fun r14 =>
if p1 = (0 : Int32) then (
if r13 < r4 then (
lt_ (q39.1 + (1 : Int32)) (fun x17 =>
some (.inl (x17, (q39.2.1 + (1 : Int32)), r14.2)))) else (
fX11_lies_J85 p1 r4 q39 r13 q39.1 r14.2)) else (
fX11_lies_J85 p1 r4 q39 r13 q39.1 r14.2)))))
noncomputable def fX11_lies_L25 (p1 : Int32) (r4 : Int32) (q25 : Int32 × Int32 × Rc) : Option ((Int32 × Int32 × Rc) ⊕ (Int32 × Rc)) :=
if (ga q25.2.2 0 (0 : Int32).toNatClampNeg) ≤ q25.2.1 then (
some (.inr (q25.1, q25.2.2))) else (
(loopF (fX11_lies_L39 p1 r4 q25) (q25.1, (0 : Int32), q25.2.2)).bind (fun o39 =>
some (.inl (o39.1, (q25.2.1 + (1 : Int32)), o39.2))))
noncomputable def fX11_lies (p1 : Int32) (s0 : Rc) : Option (Int32 × Rc) :=
if p1 < (0 : Int32) then (
lt_ (fX11_refuse (1 : Int32) s0) (fun r2 =>
some (r2.1, r2.2))) else (
if p1 ≤ (1 : Int32) then (
(fX11_keptOf s0).bind (fun r4 =>
(loopF (fX11_lies_L25 p1 r4) ((0 : Int32), (0 : Int32), s0)).bind (fun o25 =>
lt_ (fX11_gives o25.1 o25.2) (fun r18 =>
some (r18.1, r18.2))))) else (
lt_ (fX11_refuse (1 : Int32) s0) (fun r19 =>
some (r19.1, r19.2))))
noncomputable def fX11_lives_L12 (q12 : Int32 × Rc) : Option ((Int32 × Rc) ⊕ Rc) :=
if (4 : Int32) ≤ q12.1 then (
some (.inr q12.2)) else (
gd (inb q12.1 4) (
lt_ (sa q12.2 34 (upd (ga q12.2 34) q12.1.toNatClampNeg (0 : Int32))) (fun s0_5 =>
some (.inl ((q12.1 + (1 : Int32)), s0_5)))))
noncomputable def fX11_lives_J174 (q32 : Int32 × Rc) (t174_0 : Rc) : Option ((Int32 × Rc) ⊕ ((Rc) ⊕ (Rc) ⊕ (Rc))) :=
(fX11_behindEnds (q32.1 + (1 : Int32)) t174_0).bind (fun r6 =>
some (.inl (r6.1, r6.2)))
noncomputable def fX11_lives_J140 (q32 : Int32 × Rc) (y140_3 : Int32) (t140_0 : Rc) : Option ((Int32 × Rc) ⊕ ((Rc) ⊕ (Rc) ⊕ (Rc))) :=
gd (inb y140_3 6240) (
if (ga t140_0 0 y140_3.toNatClampNeg) < (2300 : Int32) then (
fX11_lives_J174 q32 t140_0) else (
(fX11_holds y140_3 t140_0).bind (fun r9 =>
if r9 = (0 : Int32) then (
gd (inb (y140_3 + (4 : Int32)) 6240) (
(fX11_behindEnds ((ga t140_0 0 (y140_3 + (4 : Int32)).toNatClampNeg) + (1 : Int32)) t140_0).bind (fun r13 =>
some (.inl (r13.1, r13.2))))) else (
fX11_lives_J174 q32 t140_0))))
noncomputable def fX11_lives_J111 (q32 : Int32 × Rc) (y111_3 : Int32) (z111_0 : Int32) (z111_1 : Int32) (z111_2 : Int32) (t111_0 : Rc) : Option ((Int32 × Rc) ⊕ ((Rc) ⊕ (Rc) ⊕ (Rc))) :=
gd (inb z111_2 4) (
lt_ (sa t111_0 34 (upd (ga t111_0 34) z111_2.toNatClampNeg (z111_1 + z111_0))) (fun s0_15 =>
gd (inb y111_3 6240) (
if (ga s0_15 0 y111_3.toNatClampNeg) = (24 : Int32) then (
gd (inb (y111_3 + (1 : Int32)) 6240) (
gd (inb q32.1 80) (
lt_ (sa s0_15 33 (upd (ga s0_15 33) q32.1.toNatClampNeg ((ga s0_15 0 (y111_3 + (1 : Int32)).toNatClampNeg) - (1 : Int32)))) (fun s0_20 =>
fX11_lives_J140 q32 y111_3 s0_20)))) else (
fX11_lives_J140 q32 y111_3 s0_15))))
noncomputable def fX11_lives_L32 (q32 : Int32 × Rc) : Option ((Int32 × Rc) ⊕ ((Rc) ⊕ (Rc) ⊕ (Rc))) :=
if (ga q32.2 0 (3 : Int32).toNatClampNeg) ≤ q32.1 then (
some (.inr (.inr (.inr q32.2)))) else (
if (gi q32.2 32) = (200 : Int32) then (
some (.inr (.inl q32.2))) else (
lt_ ((670 : Int32) + ((6 : Int32) * q32.1)) (fun x23 =>
lt_ (si q32.2 32 ((gi q32.2 32) + (1 : Int32))) (fun s0_24 =>
gd (inb x23 6240) (
if (ga s0_24 0 x23.toNatClampNeg) = (26 : Int32) then (
some (.inr (.inr (.inl s0_24)))) else (
(fX11_does x23 s0_24).bind (fun r27 =>
if r27.1 = (0 : Int32) then (
fX11_lives_J111 q32 x23 (1 : Int32) (ga s0_24 34 (0 : Int32).toNatClampNeg) (0 : Int32) r27.2) else (
fX11_lives_J111 q32 x23 (0 : Int32) (ga s0_24 34 (0 : Int32).toNatClampNeg) (0 : Int32) r27.2))))))))
noncomputable def fX11_lives (p1 : Int32) (s0 : Rc) : Option (Rc) :=
lt_ (si s0 24 p1) (fun s0_1 =>
lt_ (si s0_1 32 (0 : Int32)) (fun s0_2 =>
(loopF (fX11_lives_L12) ((0 : Int32), s0_2)).bind (fun o12 =>
(loopF (fX11_lives_L32) ((0 : Int32), o12)).bind (fun e32_0 => Sum.elim (fun o32a =>
lt_ (sa o32a 34 (upd (ga o32a 34) (3 : Int32).toNatClampNeg (1 : Int32))) (fun s0_30 =>
some s0_30)) (fun e32_1 => Sum.elim (fun o32b =>
some o32b) (fun o32c =>
some o32c) e32_1) e32_0))))
noncomputable def fX11_live_L42 (q42 : Int32 × Rc) : Option ((Int32 × Rc) ⊕ Rc) :=
if (4 : Int32) ≤ q42.1 then (
some (.inr q42.2)) else (
gd (inb q42.1 4) (
lt_ (sa q42.2 35 (upd (ga q42.2 35) q42.1.toNatClampNeg (ga q42.2 34 q42.1.toNatClampNeg))) (fun s0_7 =>
some (.inl ((q42.1 + (1 : Int32)), s0_7)))))
noncomputable def fX11_live (p1 : Int32) (s0 : Rc) : Option (Int32 × Rc) :=
if (fX11_isFrom p1.toInt64 (0 : Int64) (9999 : Int64)) = (0 : Int32) then (
lt_ (fX11_refuse (1 : Int32) s0) (fun r11 =>
some (r11.1, r11.2))) else (
if (ga s0 0 (3 : Int32).toNatClampNeg) = (-1 : Int32) then (
lt_ (fX11_refuse (6 : Int32) s0) (fun r10 =>
some (r10.1, r10.2))) else (
(fX11_lives p1 s0).bind (fun r4 =>
(loopF (fX11_live_L42) ((0 : Int32), r4)).bind (fun o42 =>
lt_ (si o42 36 (1 : Int32)) (fun s0_8 =>
lt_ (fX11_gives (gi s0_8 32) s0_8) (fun r9 =>
some (r9.1, r9.2)))))))
noncomputable def fX11_lived (p1 : Int32) (s0 : Rc) : Option (Int32 × Rc) :=
if p1 < (0 : Int32) then (
lt_ (fX11_refuse (1 : Int32) s0) (fun r2 =>
some (r2.1, r2.2))) else (
if p1 ≤ (3 : Int32) then (
if (gi s0 36) = (0 : Int32) then (
lt_ (fX11_refuse (6 : Int32) s0) (fun r5 =>
some (r5.1, r5.2))) else (
gd (inb p1 4) (
lt_ (fX11_gives (ga s0 35 p1.toNatClampNeg) s0) (fun r7 =>
some (r7.1, r7.2))))) else (
lt_ (fX11_refuse (1 : Int32) s0) (fun r8 =>
some (r8.1, r8.2))))
noncomputable def fX11_mark (s0 : Rc) : Option (Int32 × Rc) :=
if (gi s0 37) = (3 : Int32) then (
lt_ (fX11_refuse (4 : Int32) s0) (fun r5 =>
some (r5.1, r5.2))) else (
lt_ (si s0 37 ((gi s0 37) + (1 : Int32))) (fun s0_2 =>
(fX11_copies (0 : Int32) (gi s0_2 37) s0_2).bind (fun r3 =>
lt_ (fX11_gives (gi r3 37) r3) (fun r4 =>
some (r4.1, r4.2)))))
noncomputable def fX11_mean_L60 (q60 : Int32 × Rc) : Option ((Int32 × Rc) ⊕ Rc) :=
if (670 : Int32) ≤ q60.1 then (
some (.inr q60.2)) else (
gd (inb q60.1 6240) (
gd (inb ((5200 : Int32) + q60.1) 6240) (
lt_ (sa q60.2 0 (upd (ga q60.2 0) ((5200 : Int32) + q60.1).toNatClampNeg (ga q60.2 0 q60.1.toNatClampNeg))) (fun s0_14 =>
some (.inl ((q60.1 + (1 : Int32)), s0_14))))))
noncomputable def fX11_mean_L119 (q119 : Int32 × Rc) : Option ((Int32 × Rc) ⊕ Rc) :=
if (670 : Int32) ≤ q119.1 then (
some (.inr q119.2)) else (
gd (inb ((5200 : Int32) + q119.1) 6240) (
gd (inb q119.1 6240) (
lt_ (sa q119.2 0 (upd (ga q119.2 0) q119.1.toNatClampNeg (ga q119.2 0 ((5200 : Int32) + q119.1).toNatClampNeg))) (fun s0_22 =>
some (.inl ((q119.1 + (1 : Int32)), s0_22))))))
noncomputable def fX11_mean_L94 (p1 : Int32) (p2 : Int32) (q94 : Int64 × Int32 × Rc) : Option ((Int64 × Int32 × Rc) ⊕ (Int64 × Rc)) :=
if p2 ≤ q94.2.1 then (
some (.inr (q94.1, q94.2.2))) else (
(fX11_lives (p1 + q94.2.1) q94.2.2).bind (fun r16 =>
(fX11_keptOf r16).bind (fun r17 =>
lt_ (q94.1 + r17.toInt64) (fun x18 =>
(loopF (fX11_mean_L119) ((0 : Int32), r16)).bind (fun o119 =>
some (.inl (x18, (q94.2.1 + (1 : Int32)), o119)))))))
noncomputable def fX11_mean (p1 : Int32) (p2 : Int32) (s0 : Rc) : Option (Int32 × Rc) :=
if (fX11_isFrom p1.toInt64 (0 : Int64) (9999 : Int64)) = (0 : Int32) then (
lt_ (fX11_is (1 : Int32) s0) (fun r3 =>
some (r3.1, r3.2))) else (
if (fX11_isFrom p2.toInt64 (1 : Int64) (20 : Int64)) = (0 : Int32) then (
lt_ (fX11_is (1 : Int32) s0) (fun r7 =>
some (r7.1, r7.2))) else (
if ((p1 + p2) - (1 : Int32)) ≤ (9999 : Int32) then (
if (ga s0 0 (3 : Int32).toNatClampNeg) = (-1 : Int32) then (
lt_ (fX11_is (6 : Int32) s0) (fun r25 =>
some (r25.1, r25.2))) else (
(loopF (fX11_mean_L60) ((0 : Int32), s0)).bind (fun o60 =>
(loopF (fX11_mean_L94 p1 p2) ((0 : Int64), (0 : Int32), o60)).bind (fun o94 =>
(fX11_tellsBy o94.1 p2.toInt64 o94.2).bind (fun r23 =>
some (r23.1, r23.2)))))) else (
lt_ (fX11_is (1 : Int32) s0) (fun r27 =>
some (r27.1, r27.2)))))
noncomputable def fX11_mood_L18 (p1 : Int32) (s0 : Rc) (q18 : Int32 × Int32) : Option ((Int32 × Int32) ⊕ Int32) :=
if (ga s0 0 (0 : Int32).toNatClampNeg) ≤ q18.2 then (
some (.inr q18.1)) else (
gd (inb (((58 : Int32) + ((8 : Int32) * p1)) + q18.2) 6240) (
lt_ (q18.1 + (ga s0 0 (((58 : Int32) + ((8 : Int32) * p1)) + q18.2).toNatClampNeg)) (fun x5 =>
some (.inl (x5, (q18.2 + (1 : Int32)))))))
noncomputable def fX11_mood (p1 : Int32) (s0 : Rc) : Option (Int32 × Rc) :=
if (fX11_isFarmer p1 s0) = (0 : Int32) then (
lt_ (fX11_refuse (1 : Int32) s0) (fun r7 =>
some (r7.1, r7.2))) else (
(loopF (fX11_mood_L18 p1 s0) ((0 : Int32), (0 : Int32))).bind (fun o18 =>
lt_ (fX11_gives o18 s0) (fun r6 =>
some (r6.1, r6.2))))
noncomputable def fX11_nextWrong_J48 (q20 : Int32) (z48_0 : Int32) (z48_1 : Int32) : Option (Int32 ⊕ ((Int32) ⊕ (Unit))) :=
if z48_1 = z48_0 then (
some (.inr (.inl q20))) else (
some (.inl (q20 + (1 : Int32))))
noncomputable def fX11_nextWrong_L20 (s0 : Rc) (q20 : Int32) : Option (Int32 ⊕ ((Int32) ⊕ (Unit))) :=
if (ga s0 0 (1 : Int32).toNatClampNeg) ≤ q20 then (
some (.inr (.inr ()))) else (
(fX11_sayOf q20 s0).bind (fun r5 =>
(fX11_isWet q20 s0).bind (fun r6 =>
if r6 = (0 : Int32) then (
fX11_nextWrong_J48 q20 (1 : Int32) r5) else (
fX11_nextWrong_J48 q20 (0 : Int32) r5))))
noncomputable def fX11_nextWrong (p1 : Int32) (s0 : Rc) : Option (Int32 × Rc) :=
if (fX11_isFrom p1.toInt64 (0 : Int64) (59 : Int64)) = (0 : Int32) then (
lt_ (fX11_refuse (1 : Int32) s0) (fun r11 =>
some (r11.1, r11.2))) else (
(loopF (fX11_nextWrong_L20 s0) p1).bind (fun o20 =>
Sum.elim (fun o20a =>
lt_ (fX11_gives o20a s0) (fun r9 =>
some (r9.1, r9.2))) (fun o20b =>
lt_ (fX11_refuse (6 : Int32) s0) (fun r10 =>
some (r10.1, r10.2))) o20))
noncomputable def fX11_odds (p1 : Int32) (p2 : Int32) (s0 : Rc) : Option (Int32 × Rc) :=
if (fX11_isAsked p1) = (0 : Int32) then (
lt_ (fX11_is (1 : Int32) s0) (fun r3 =>
some (r3.1, r3.2))) else (
if (fX11_isFrom p2.toInt64 (1 : Int64) (15 : Int64)) = (0 : Int32) then (
lt_ (fX11_is (1 : Int32) s0) (fun r13 =>
some (r13.1, r13.2))) else (
(fX11_weighs p1 p2 s0).bind (fun r7 =>
if ((gl r7 27) + (gl r7 28)) = (0 : Int64) then (
lt_ (fX11_is (7 : Int32) r7) (fun r11 =>
some (r11.1, r11.2))) else (
(fX11_tellsBy (gl r7 27) ((gl r7 27) + (gl r7 28)) r7).bind (fun r9 =>
some (r9.1, r9.2))))))
noncomputable def fX11_pour_J143 (p1 : Int32) (p2 : Int32) (p3 : Int32) (p4 : Int32) (q118 : Int32 × Rc) (z143_0 : Int32) : Option ((Int32 × Rc) ⊕ Rc) :=
gd (inb ((((60 : Int32) * p1) + p2) + z143_0) 240) (
gd (inb ((((60 : Int32) * p3) + p4) + z143_0) 240) (
lt_ (sb q118.2 7 (vp_updL (gb q118.2 7) ((((60 : Int32) * p3) + p4) + z143_0).toNatClampNeg (gb q118.2 7 ((((60 : Int32) * p1) + p2) + z143_0).toNatClampNeg))) (fun s0_29 =>
some (.inl ((q118.1 + (1 : Int32)), s0_29)))))
noncomputable def fX11_pour_L118 (p1 : Int32) (p2 : Int32) (p3 : Int32) (p4 : Int32) (p5 : Int32) (q118 : Int32 × Rc) : Option ((Int32 × Rc) ⊕ Rc) :=
if p5 ≤ q118.1 then (
some (.inr q118.2)) else (
if p4 ≤ p2 then (
fX11_pour_J143 p1 p2 p3 p4 q118 q118.1) else (
fX11_pour_J143 p1 p2 p3 p4 q118 ((p5 - (1 : Int32)) - q118.1)))
noncomputable def fX11_pour (p1 : Int32) (p2 : Int32) (p3 : Int32) (p4 : Int32) (p5 : Int32) (s0 : Rc) : Option (Int32 × Rc) :=
if (fX11_isTray p1) = (0 : Int32) then (
lt_ (fX11_is (1 : Int32) s0) (fun r3 =>
some (r3.1, r3.2))) else (
if (fX11_isTray p3) = (0 : Int32) then (
lt_ (fX11_is (1 : Int32) s0) (fun r7 =>
some (r7.1, r7.2))) else (
if p2 < (0 : Int32) then (
lt_ (fX11_is (1 : Int32) s0) (fun r10 =>
some (r10.1, r10.2))) else (
if p4 < (0 : Int32) then (
lt_ (fX11_is (1 : Int32) s0) (fun r13 =>
some (r13.1, r13.2))) else (
if (0 : Int32) ≤ p5 then (
gd (inb p1 4) (
if (ga s0 6 p1.toNatClampNeg) = (-1 : Int32) then (
lt_ (fX11_is (2 : Int32) s0) (fun r18 =>
some (r18.1, r18.2))) else (
gd (inb p3 4) (
if (ga s0 6 p3.toNatClampNeg) = (-1 : Int32) then (
lt_ (fX11_is (2 : Int32) s0) (fun r38 =>
some (r38.1, r38.2))) else (
if (ga s0 5 p1.toNatClampNeg) = (ga s0 5 p3.toNatClampNeg) then (
if ((ga s0 6 p1.toNatClampNeg) - p2) < p5 then (
lt_ (fX11_is (3 : Int32) s0) (fun r24 =>
some (r24.1, r24.2))) else (
if p5 ≤ ((ga s0 6 p3.toNatClampNeg) - p4) then (
(loopF (fX11_pour_L118 p1 p2 p3 p4 p5) ((0 : Int32), s0)).bind (fun o118 =>
lt_ (fX11_is (0 : Int32) o118) (fun r32 =>
some (r32.1, r32.2)))) else (
lt_ (fX11_is (3 : Int32) s0) (fun r34 =>
some (r34.1, r34.2))))) else (
lt_ (fX11_is (8 : Int32) s0) (fun r36 =>
some (r36.1, r36.2)))))))) else (
lt_ (fX11_is (1 : Int32) s0) (fun r40 =>
some (r40.1, r40.2)))))))
noncomputable def fX11_quiet_J49 (q21 : Int32 × Int32 × Int32) (z49_0 : Int32) : Option ((Int32 × Int32 × Int32) ⊕ Int32) :=
lt_ (if q21.1 < z49_0 then z49_0 else q21.1) (fun x3 =>
some (.inl (x3, z49_0, (q21.2.2 + (1 : Int32)))))
noncomputable def fX11_quiet_L21 (p1 : Int32) (s0 : Rc) (q21 : Int32 × Int32 × Int32) : Option ((Int32 × Int32 × Int32) ⊕ Int32) :=
if (ga s0 0 (1 : Int32).toNatClampNeg) ≤ q21.2.2 then (
some (.inr q21.1)) else (
(fX11_felt p1 q21.2.2 s0).bind (fun r5 =>
if r5 = (0 : Int32) then (
fX11_quiet_J49 q21 (q21.2.1 + (1 : Int32))) else (
fX11_quiet_J49 q21 (0 : Int32))))
noncomputable def fX11_quiet (p1 : Int32) (s0 : Rc) : Option (Int32 × Rc) :=
if (fX11_isFarmer p1 s0) = (0 : Int32) then (
lt_ (fX11_refuse (1 : Int32) s0) (fun r9 =>
some (r9.1, r9.2))) else (
(loopF (fX11_quiet_L21 p1 s0) ((0 : Int32), (0 : Int32), (0 : Int32))).bind (fun o21 =>
lt_ (fX11_gives o21 s0) (fun r8 =>
some (r8.1, r8.2))))
noncomputable def fX11_wrongPlace (p1 : Int32) (p2 : Int32) (s0 : Rc) : Option (Int32) :=
if (fX11_isTray p1) = (0 : Int32) then (
some (1 : Int32)) else (
gd (inb p1 4) (
if (ga s0 6 p1.toNatClampNeg) = (-1 : Int32) then (
some (2 : Int32)) else (
if p2 < (0 : Int32) then (
some (3 : Int32)) else (
if p2 < (ga s0 6 p1.toNatClampNeg) then (
some (0 : Int32)) else (
some (3 : Int32))))))
noncomputable def fX11_read (p1 : Int32) (p2 : Int32) (s0 : Rc) : Option (Int64 × Rc) :=
(fX11_wrongPlace p1 p2 s0).bind (fun r1 =>
lt_ (si s0 2 r1) (fun s0_2 =>
if (gi s0_2 2) ≤ (0 : Int32) then (
gd (inb (((60 : Int32) * p1) + p2) 240) (
some ((gb s0_2 7 (((60 : Int32) * p1) + p2).toNatClampNeg), s0_2))) else (
some ((-1 : Int64), s0_2))))
noncomputable def fX11_rightOf_L4 (p1 : Int32) (s0 : Rc) (q4 : Int32 × Int32) : Option ((Int32 × Int32) ⊕ Int32) :=
if (ga s0 0 (1 : Int32).toNatClampNeg) ≤ q4.2 then (
some (.inr q4.1)) else (
(fX11_isRight p1 q4.2 s0).bind (fun r2 =>
if r2 = (0 : Int32) then (
lt_ (q4.1 + (0 : Int32)) (fun x5 =>
some (.inl (x5, (q4.2 + (1 : Int32)))))) else (
lt_ (q4.1 + (1 : Int32)) (fun x6 =>
some (.inl (x6, (q4.2 + (1 : Int32))))))))
noncomputable def fX11_rightOf (p1 : Int32) (s0 : Rc) : Option (Int32) :=
(loopF (fX11_rightOf_L4 p1 s0) ((0 : Int32), (0 : Int32))).bind (fun o4 =>
some o4)
noncomputable def fX11_right (p1 : Int32) (s0 : Rc) : Option (Int32 × Rc) :=
if (fX11_isFarmer p1 s0) = (0 : Int32) then (
lt_ (fX11_refuse (1 : Int32) s0) (fun r3 =>
some (r3.1, r3.2))) else (
(fX11_rightOf p1 s0).bind (fun r4 =>
lt_ (fX11_gives r4 s0) (fun r5 =>
some (r5.1, r5.2))))
noncomputable def fX11_rival_L18 (p1 : Int32) (s0 : Rc) (q18 : Int32 × Int32) : Option ((Int32 × Int32) ⊕ Int32) :=
if (ga s0 0 (0 : Int32).toNatClampNeg) ≤ q18.2 then (
some (.inr q18.1)) else (
if q18.2 = p1 then (
some (.inl (q18.1, (q18.2 + (1 : Int32))))) else (
if q18.1 = (-1 : Int32) then (
some (.inl (q18.2, (q18.2 + (1 : Int32))))) else (
(fX11_alikeOf p1 q18.2 s0).bind (fun r6 =>
(fX11_alikeOf p1 q18.1 s0).bind (fun r7 =>
if r6 ≤ r7 then (
some (.inl (q18.1, (q18.2 + (1 : Int32))))) else (
some (.inl (q18.2, (q18.2 + (1 : Int32))))))))))
noncomputable def fX11_rival (p1 : Int32) (s0 : Rc) : Option (Int32 × Rc) :=
if (fX11_isFarmer p1 s0) = (0 : Int32) then (
lt_ (fX11_refuse (1 : Int32) s0) (fun r10 =>
some (r10.1, r10.2))) else (
(loopF (fX11_rival_L18 p1 s0) ((-1 : Int32), (0 : Int32))).bind (fun o18 =>
lt_ (fX11_orNone o18 s0) (fun r9 =>
some (r9.1, r9.2))))
noncomputable def fX11_says (p1 : Int32) (s0 : Rc) : Option (Int32 × Rc) :=
if (fX11_isAsked p1) = (0 : Int32) then (
lt_ (fX11_refuse (1 : Int32) s0) (fun r3 =>
some (r3.1, r3.2))) else (
(fX11_sayOf p1 s0).bind (fun r4 =>
lt_ (fX11_orNone r4 s0) (fun r5 =>
some (r5.1, r5.2))))
noncomputable def fX11_test_J102 (p1 : Int32) (y102_2 : Int32) (t102_0 : Rc) : Option (Int32 × Rc) :=
gd (inb (p1 + (5 : Int32)) 6240) (
lt_ (sa t102_0 0 (upd (ga t102_0 0) (p1 + (5 : Int32)).toNatClampNeg (gi t102_0 15))) (fun s0_2 =>
(fX11_ahead s0_2).bind (fun r3 =>
if y102_2 = (28 : Int32) then (
(fX11_number (p1 + (2 : Int32)) (0 : Int32) (64 : Int32) r3).bind (fun r7 =>
some (r7.1, r7.2))) else (
(fX11_number (p1 + (2 : Int32)) (0 : Int32) (60 : Int32) r3).bind (fun r5 =>
some (r5.1, r5.2))))))
noncomputable def fX11_test_J69 (p1 : Int32) (y69_2 : Int32) (t69_0 : Rc) : Option (Int32 × Rc) :=
if (fX11_isSign (60 : Int32) t69_0) = (0 : Int32) then (
if (fX11_isSign (62 : Int32) t69_0) = (0 : Int32) then (
if (fX11_isSign (61 : Int32) t69_0) = (0 : Int32) then (
lt_ (fX11_fails (2 : Int32) t69_0) (fun r15 =>
some (r15.1, r15.2))) else (
fX11_test_J102 p1 y69_2 t69_0)) else (
fX11_test_J102 p1 y69_2 t69_0)) else (
fX11_test_J102 p1 y69_2 t69_0)
noncomputable def fX11_test (p1 : Int32) (s0 : Rc) : Option (Int32 × Rc) :=
(fX11_inWords s0).bind (fun r17 =>
if (27 : Int32) ≤ r17 then (
gd (inb p1 6240) (
lt_ (sa s0 0 (upd (ga s0 0) p1.toNatClampNeg ((2300 : Int32) + r17))) (fun s0_20 =>
(fX11_ahead s0_20).bind (fun r21 =>
if r17 = (27 : Int32) then (
(fX11_number (p1 + (1 : Int32)) (0 : Int32) (62 : Int32) r21).bind (fun r27 =>
some (r27.1, r27.2))) else (
if r17 = (28 : Int32) then (
(fX11_farmerTo (p1 + (1 : Int32)) r21).bind (fun r24 =>
if r24.1 = (0 : Int32) then (
some ((0 : Int32), r24.2)) else (
fX11_test_J69 p1 r17 r24.2))) else (
fX11_test_J69 p1 r17 r21)))))) else (
lt_ (fX11_fails (2 : Int32) s0) (fun r29 =>
some (r29.1, r29.2))))
noncomputable def fX11_seasonOrder (p1 : Int32) (p2 : Int32) (s0 : Rc) : Option (Int32 × Rc) :=
if p1 = (14 : Int32) then (
(fX11_number (p2 + (1 : Int32)) (0 : Int32) (16 : Int32) s0).bind (fun r2 =>
some (r2.1, r2.2))) else (
if p1 = (18 : Int32) then (
(fX11_farmerTo (p2 + (1 : Int32)) s0).bind (fun r5 =>
if r5.1 = (0 : Int32) then (
some ((0 : Int32), r5.2)) else (
(fX11_wantWord (22 : Int32) r5.2).bind (fun r8 =>
if r8.1 = (0 : Int32) then (
some ((0 : Int32), r8.2)) else (
(fX11_number (p2 + (2 : Int32)) (0 : Int32) (59 : Int32) r8.2).bind (fun r11 =>
if r11.1 = (0 : Int32) then (
some ((0 : Int32), r11.2)) else (
some ((1 : Int32), r11.2)))))))) else (
if p1 = (19 : Int32) then (
(fX11_farmerTo (p2 + (1 : Int32)) s0).bind (fun r15 =>
if r15.1 = (0 : Int32) then (
some ((0 : Int32), r15.2)) else (
(fX11_wantWord (22 : Int32) r15.2).bind (fun r18 =>
if r18.1 = (0 : Int32) then (
some ((0 : Int32), r18.2)) else (
(fX11_number (p2 + (2 : Int32)) (0 : Int32) (60 : Int32) r18.2).bind (fun r21 =>
if r21.1 = (0 : Int32) then (
some ((0 : Int32), r21.2)) else (
some ((1 : Int32), r21.2)))))))) else (
if p1 = (20 : Int32) then (
(fX11_farmerTo (p2 + (1 : Int32)) s0).bind (fun r25 =>
if r25.1 = (0 : Int32) then (
some ((0 : Int32), r25.2)) else (
(fX11_number (p2 + (2 : Int32)) (0 : Int32) (16 : Int32) r25.2).bind (fun r28 =>
if r28.1 = (0 : Int32) then (
some ((0 : Int32), r28.2)) else (
some ((1 : Int32), r28.2)))))) else (
if p1 = (21 : Int32) then (
(fX11_number (p2 + (1 : Int32)) (0 : Int32) (59 : Int32) s0).bind (fun r32 =>
some (r32.1, r32.2))) else (
if p1 = (23 : Int32) then (
(fX11_test p2 s0).bind (fun r35 =>
some (r35.1, r35.2))) else (
if p1 = (24 : Int32) then (
(fX11_number (p2 + (1 : Int32)) (1 : Int32) (99 : Int32) s0).bind (fun r38 =>
some (r38.1, r38.2))) else (
some ((1 : Int32), s0))))))))
noncomputable def fX11_seasonStep_J228 (y228_1 : Int32) (y228_2 : Int32) (y228_3 : Int32) (t228_0 : Rc) : Option (Int32 × Rc) :=
if y228_1 = (25 : Int32) then (
lt_ (si t228_0 22 ((gi t228_0 22) - (1 : Int32))) (fun s0_4 =>
gd (inb (gi s0_4 22) 3) (
gd (inb (y228_3 + (4 : Int32)) 6240) (
lt_ (sa s0_4 0 (upd (ga s0_4 0) (y228_3 + (4 : Int32)).toNatClampNeg (ga s0_4 21 (gi s0_4 22).toNatClampNeg))) (fun s0_7 =>
gd (inb (gi s0_7 22) 3) (
gd (inb (((4830 : Int32) + ((6 : Int32) * (ga s0_7 21 (gi s0_7 22).toNatClampNeg))) + (4 : Int32)) 6240) (
lt_ (sa s0_7 0 (upd (ga s0_7 0) (((4830 : Int32) + ((6 : Int32) * (ga s0_7 21 (gi s0_7 22).toNatClampNeg))) + (4 : Int32)).toNatClampNeg y228_2)) (fun s0_10 =>
(fX11_wantSign (59 : Int32) s0_10).bind (fun r11 =>
some (r11.1, r11.2)))))))))) else (
(fX11_wantSign (59 : Int32) t228_0).bind (fun r2 =>
some (r2.1, r2.2)))
noncomputable def fX11_seasonStep_L153 (y139_3 : Int32) (q153 : Int32 × Rc) : Option ((Int32 × Rc) ⊕ Rc) :=
if (6 : Int32) ≤ q153.1 then (
some (.inr q153.2)) else (
gd (inb (y139_3 + q153.1) 6240) (
lt_ (sa q153.2 0 (upd (ga q153.2 0) (y139_3 + q153.1).toNatClampNeg (0 : Int32))) (fun s0_18 =>
some (.inl ((q153.1 + (1 : Int32)), s0_18)))))
noncomputable def fX11_seasonStep_J139 (s0 : Rc) (y139_1 : Int32) (y139_2 : Int32) (y139_3 : Int32) (y139_4 : Int32) (z139_0 : Int32) (z139_1 : Int32) : Option (Int32 × Rc) :=
lt_ (si s0 23 (z139_1 + z139_0)) (fun s0_13 =>
gd (inb y139_3 6240) (
lt_ (sa s0_13 0 (upd (ga s0_13 0) y139_3.toNatClampNeg y139_1)) (fun s0_15 =>
(loopF (fX11_seasonStep_L153 y139_3) ((1 : Int32), s0_15)).bind (fun o153 =>
lt_ (sa o153 0 (upd (ga o153 0) (4163 : Int32).toNatClampNeg ((ga o153 0 (4163 : Int32).toNatClampNeg) + (1 : Int32)))) (fun s0_19 =>
(fX11_ahead s0_19).bind (fun r20 =>
(fX11_seasonOrder y139_1 y139_3 r20).bind (fun r21 =>
if r21.1 = (0 : Int32) then (
some ((0 : Int32), r21.2)) else (
if y139_4 = (0 : Int32) then (
fX11_seasonStep_J228 y139_1 y139_2 y139_3 r21.2) else (
gd (inb (gi r21.2 22) 3) (
lt_ (sa r21.2 21 (upd (ga r21.2 21) (gi r21.2 22).toNatClampNeg y139_2)) (fun s0_26 =>
lt_ (si s0_26 22 ((gi s0_26 22) + (1 : Int32))) (fun s0_27 =>
fX11_seasonStep_J228 y139_1 y139_2 y139_3 s0_27))))))))))))
noncomputable def fX11_seasonStep_J123 (s0 : Rc) (y123_1 : Int32) (y123_2 : Int32) (y123_3 : Int32) (y123_4 : Int32) : Option (Int32 × Rc) :=
if y123_1 = (25 : Int32) then (
fX11_seasonStep_J139 s0 y123_1 y123_2 y123_3 y123_4 (0 : Int32) (gi s0 23)) else (
fX11_seasonStep_J139 s0 y123_1 y123_2 y123_3 y123_4 (1 : Int32) (gi s0 23))
noncomputable def fX11_seasonStep_J103 (s0 : Rc) (y103_1 : Int32) (y103_2 : Int32) (y103_3 : Int32) (y103_4 : Int32) : Option (Int32 × Rc) :=
if y103_4 = (0 : Int32) then (
fX11_seasonStep_J123 s0 y103_1 y103_2 y103_3 y103_4) else (
if (gi s0 22) = (3 : Int32) then (
lt_ (fX11_fails (7 : Int32) s0) (fun r31 =>
some (r31.1, r31.2))) else (
fX11_seasonStep_J123 s0 y103_1 y103_2 y103_3 y103_4))
noncomputable def fX11_seasonStep_J81 (s0 : Rc) (y81_1 : Int32) (y81_2 : Int32) (y81_3 : Int32) (y81_4 : Int32) : Option (Int32 × Rc) :=
if y81_1 = (25 : Int32) then (
fX11_seasonStep_J103 s0 y81_1 y81_2 y81_3 y81_4) else (
if (gi s0 23) = (30 : Int32) then (
lt_ (fX11_fails (6 : Int32) s0) (fun r35 =>
some (r35.1, r35.2))) else (
fX11_seasonStep_J103 s0 y81_1 y81_2 y81_3 y81_4))
noncomputable def fX11_seasonStep_J42 (s0 : Rc) (y42_1 : Int32) (y42_2 : Int32) (y42_3 : Int32) (z42_0 : Int32) : Option (Int32 × Rc) :=
if y42_1 < (14 : Int32) then (
lt_ (fX11_fails (2 : Int32) s0) (fun r38 =>
some (r38.1, r38.2))) else (
if (26 : Int32) < y42_1 then (
lt_ (fX11_fails (2 : Int32) s0) (fun r41 =>
some (r41.1, r41.2))) else (
if y42_1 = (22 : Int32) then (
lt_ (fX11_fails (2 : Int32) s0) (fun r44 =>
some (r44.1, r44.2))) else (
if y42_1 = (25 : Int32) then (
if (gi s0 22) = (0 : Int32) then (
lt_ (fX11_fails (2 : Int32) s0) (fun r48 =>
some (r48.1, r48.2))) else (
fX11_seasonStep_J81 s0 y42_1 y42_2 y42_3 z42_0)) else (
fX11_seasonStep_J81 s0 y42_1 y42_2 y42_3 z42_0))))
noncomputable def fX11_seasonStep_J37 (s0 : Rc) (y37_1 : Int32) (y37_2 : Int32) (y37_3 : Int32) : Option (Int32 × Rc) :=
fX11_seasonStep_J42 s0 y37_1 y37_2 y37_3 (1 : Int32)
noncomputable def fX11_seasonStep (s0 : Rc) : Option (Int32 × Rc) :=
(fX11_inWords s0).bind (fun r50 =>
lt_ (ga s0 0 (4163 : Int32).toNatClampNeg) (fun x51 =>
lt_ ((4830 : Int32) + ((6 : Int32) * x51)) (fun x52 =>
if r50 = (23 : Int32) then (
fX11_seasonStep_J37 s0 r50 x51 x52) else (
if r50 = (24 : Int32) then (
fX11_seasonStep_J37 s0 r50 x51 x52) else (
fX11_seasonStep_J42 s0 r50 x51 x52 (0 : Int32))))))
noncomputable def fX11_season_L102 (q102 : Int32 × Rc) : Option ((Int32 × Rc) ⊕ Rc) :=
if (1030 : Int32) ≤ q102.1 then (
some (.inr q102.2)) else (
gd (inb ((4160 : Int32) + q102.1) 6240) (
gd (inb q102.1 6240) (
lt_ (sa q102.2 0 (upd (ga q102.2 0) q102.1.toNatClampNeg (ga q102.2 0 ((4160 : Int32) + q102.1).toNatClampNeg))) (fun s0_7 =>
some (.inl ((q102.1 + (1 : Int32)), s0_7))))))
noncomputable def fX11_season_J77 (t77_0 : Rc) : Option (Int32 × Rc) :=
if (gi t77_0 18) = (0 : Int32) then (
lt_ (sa t77_0 0 (upd (ga t77_0 0) (3 : Int32).toNatClampNeg (ga t77_0 0 (4163 : Int32).toNatClampNeg))) (fun s0_3 =>
(loopF (fX11_season_L102) ((670 : Int32), s0_3)).bind (fun o102 =>
lt_ (fX11_taken (gi o102 23) o102) (fun r8 =>
some (r8.1, r8.2))))) else (
lt_ (fX11_taken (gi t77_0 23) t77_0) (fun r2 =>
some (r2.1, r2.2)))
noncomputable def fX11_season_J57 (t57_0 : Rc) : Option (Int32 × Rc) :=
if (gi t57_0 18) = (0 : Int32) then (
if (gi t57_0 22) ≤ (0 : Int32) then (
fX11_season_J77 t57_0) else (
lt_ (fX11_fails (2 : Int32) t57_0) (fun r11 =>
fX11_season_J77 r11.2))) else (
fX11_season_J77 t57_0)
noncomputable def fX11_season_L38 (q38 : Int32 × Rc) : Option ((Int32 × Rc) ⊕ Rc) :=
if q38.1 = (0 : Int32) then (
some (.inr q38.2)) else (
if (gi q38.2 12) = (0 : Int32) then (
some (.inr q38.2)) else (
(fX11_seasonStep q38.2).bind (fun r21 =>
some (.inl (r21.1, r21.2)))))
noncomputable def fX11_season (p1 : Int32) (s0 : Rc) : Option (Int32 × Rc) :=
(fX11_begins p1 (300 : Int32) s0).bind (fun r13 =>
if r13.1 = (0 : Int32) then (
lt_ (fX11_refuse (1 : Int32) r13.2) (fun r23 =>
some (r23.1, r23.2))) else (
lt_ (sa r13.2 0 (upd (ga r13.2 0) (4163 : Int32).toNatClampNeg (0 : Int32))) (fun s0_16 =>
lt_ (si s0_16 22 (0 : Int32)) (fun s0_17 =>
lt_ (si s0_17 23 (0 : Int32)) (fun s0_18 =>
(loopF (fX11_season_L38) ((1 : Int32), s0_18)).bind (fun o38 =>
fX11_season_J57 o38))))))
noncomputable def fX11_seatAt (p1 : Int32) (s0 : Rc) : Option (Int32 × Rc) :=
if p1 < (0 : Int32) then (
lt_ (fX11_refuse (6 : Int32) s0) (fun r2 =>
some (r2.1, r2.2))) else (
if p1 < (gi s0 31) then (
gd (inb p1 8) (
lt_ (fX11_gives (ga s0 30 p1.toNatClampNeg) s0) (fun r5 =>
some (r5.1, r5.2)))) else (
lt_ (fX11_refuse (6 : Int32) s0) (fun r6 =>
some (r6.1, r6.2))))
noncomputable def fX11_seats_L27 (x1 : Int32) (r3 : Rc) (q27 : Int32 × Int32) : Option ((Int32 × Int32) ⊕ Int32) :=
if x1 ≤ q27.2 then (
some (.inr q27.1)) else (
gd (inb (((8 : Int32) * ((1 : Int32) <<< (q27.2 &&& 31))) + q27.2) 2048) (
lt_ (if (ga r3 29 (((8 : Int32) * ((1 : Int32) <<< (q27.2 &&& 31))) + q27.2).toNatClampNeg) < q27.1 then (ga r3 29 (((8 : Int32) * ((1 : Int32) <<< (q27.2 &&& 31))) + q27.2).toNatClampNeg) else q27.1) (fun x6 =>
some (.inl (x6, (q27.2 + (1 : Int32)))))))
noncomputable def fX11_seats_L77 (q66 : Int32 × Int32 × Rc) (q77 : Int32) : Option (Int32 ⊕ Int32) :=
if ((q66.1 >>> (q77 &&& 31)) &&& (1 : Int32)) = (1 : Int32) then (
some (.inl (q77 + (1 : Int32)))) else (
(fX11_behind q77 q66.2.2).bind (fun r10 =>
gd (inb (((8 : Int32) * (q66.1 ||| ((1 : Int32) <<< (q77 &&& 31)))) + q77) 2048) (
if (r10 + (ga q66.2.2 29 (((8 : Int32) * (q66.1 ||| ((1 : Int32) <<< (q77 &&& 31)))) + q77).toNatClampNeg)) = q66.2.1 then (
some (.inr q77)) else (
some (.inl (q77 + (1 : Int32)))))))
noncomputable def fX11_seats_L66 (x1 : Int32) (q66 : Int32 × Int32 × Rc) : Option ((Int32 × Int32 × Rc) ⊕ Rc) :=
if x1 ≤ (gi q66.2.2 31) then (
some (.inr q66.2.2)) else (
(loopF (fX11_seats_L77 q66) (0 : Int32)).bind (fun o77 =>
(fX11_behind o77 q66.2.2).bind (fun r13 =>
lt_ (q66.2.1 - r13) (fun x14 =>
gd (inb (gi q66.2.2 31) 8) (
lt_ (sa q66.2.2 30 (upd (ga q66.2.2 30) (gi q66.2.2 31).toNatClampNeg o77)) (fun s0_16 =>
lt_ (si s0_16 31 ((gi s0_16 31) + (1 : Int32))) (fun s0_17 =>
lt_ (q66.1 ||| ((1 : Int32) <<< (o77 &&& 31))) (fun x18 =>
some (.inl (x18, x14, s0_17))))))))))
noncomputable def fX11_seats (s0 : Rc) : Option (Int32 × Rc) :=
lt_ (ga s0 0 (0 : Int32).toNatClampNeg) (fun x1 =>
if x1 = (0 : Int32) then (
lt_ (fX11_refuse (6 : Int32) s0) (fun r20 =>
some (r20.1, r20.2))) else (
(fX11_laysCosts s0).bind (fun r3 =>
(loopF (fX11_seats_L27 x1 r3) ((1000000 : Int32), (0 : Int32))).bind (fun o27 =>
lt_ (si r3 31 (0 : Int32)) (fun s0_7 =>
(loopF (fX11_seats_L66 x1) ((0 : Int32), o27, s0_7)).bind (fun o66 =>
lt_ (fX11_gives o27 o66) (fun r19 =>
some (r19.1, r19.2))))))))
noncomputable def fX11_should (p1 : Int32) (p2 : Int32) (s0 : Rc) : Option (Int32 × Rc) :=
if (fX11_isIn p1 p2 s0) = (0 : Int32) then (
lt_ (fX11_refuse (1 : Int32) s0) (fun r3 =>
some (r3.1, r3.2))) else (
(fX11_shouldFeel p1 p2 s0).bind (fun r4 =>
if r4 = (0 : Int32) then (
lt_ (fX11_gives (0 : Int32) s0) (fun r7 =>
some (r7.1, r7.2))) else (
lt_ (fX11_gives (1 : Int32) s0) (fun r8 =>
some (r8.1, r8.2)))))
noncomputable def fX11_silent_L4 (s0 : Rc) (q4 : Int32 × Int32) : Option ((Int32 × Int32) ⊕ Int32) :=
if (ga s0 0 (1 : Int32).toNatClampNeg) ≤ q4.2 then (
some (.inr q4.1)) else (
(fX11_sayOf q4.2 s0).bind (fun r2 =>
if r2 = (-1 : Int32) then (
lt_ (q4.1 + (1 : Int32)) (fun x5 =>
some (.inl (x5, (q4.2 + (1 : Int32)))))) else (
lt_ (q4.1 + (0 : Int32)) (fun x4 =>
some (.inl (x4, (q4.2 + (1 : Int32))))))))
noncomputable def fX11_silent (s0 : Rc) : Option (Int32 × Rc) :=
(loopF (fX11_silent_L4 s0) ((0 : Int32), (0 : Int32))).bind (fun o4 =>
lt_ (fX11_gives o4 s0) (fun r6 =>
some (r6.1, r6.2)))
noncomputable def fX11_span_L19 (p2 : Int32) (s0 : Rc) (q19 : Int32 × Int32) : Option ((Int32 × Int32) ⊕ Int32) :=
if p2 < q19.2 then (
some (.inr q19.1)) else (
(fX11_sayOf q19.2 s0).bind (fun r4 =>
if r4 = (1 : Int32) then (
lt_ (q19.1 + (1 : Int32)) (fun x7 =>
some (.inl (x7, (q19.2 + (1 : Int32)))))) else (
lt_ (q19.1 + (0 : Int32)) (fun x6 =>
some (.inl (x6, (q19.2 + (1 : Int32))))))))
noncomputable def fX11_span (p1 : Int32) (p2 : Int32) (s0 : Rc) : Option (Int32 × Rc) :=
if (fX11_isSpan p1 p2) = (0 : Int32) then (
lt_ (fX11_refuse (1 : Int32) s0) (fun r9 =>
some (r9.1, r9.2))) else (
(loopF (fX11_span_L19 p2 s0) ((0 : Int32), p1)).bind (fun o19 =>
lt_ (fX11_gives o19 s0) (fun r8 =>
some (r8.1, r8.2))))
noncomputable def fX11_spell_J59 (q22 : Int32 × Int32 × Int32) (z59_0 : Int32) : Option ((Int32 × Int32 × Int32) ⊕ Int32) :=
lt_ (if q22.1 < z59_0 then z59_0 else q22.1) (fun x4 =>
some (.inl (x4, z59_0, (q22.2.2 + (1 : Int32)))))
noncomputable def fX11_spell_J49 (q22 : Int32 × Int32 × Int32) (z49_0 : Int32) (z49_1 : Int32) : Option ((Int32 × Int32 × Int32) ⊕ Int32) :=
if z49_1 = z49_0 then (
fX11_spell_J59 q22 (q22.2.1 + (1 : Int32))) else (
fX11_spell_J59 q22 (0 : Int32))
noncomputable def fX11_spell_L22 (p1 : Int32) (s0 : Rc) (q22 : Int32 × Int32 × Int32) : Option ((Int32 × Int32 × Int32) ⊕ Int32) :=
if (ga s0 0 (1 : Int32).toNatClampNeg) ≤ q22.2.2 then (
some (.inr q22.1)) else (
(fX11_isWet q22.2.2 s0).bind (fun r7 =>
if p1 = (1 : Int32) then (
fX11_spell_J49 q22 (1 : Int32) r7) else (
fX11_spell_J49 q22 (0 : Int32) r7)))
noncomputable def fX11_spell (p1 : Int32) (s0 : Rc) : Option (Int32 × Rc) :=
if p1 < (0 : Int32) then (
lt_ (fX11_refuse (1 : Int32) s0) (fun r2 =>
some (r2.1, r2.2))) else (
if p1 ≤ (1 : Int32) then (
(loopF (fX11_spell_L22 p1 s0) ((0 : Int32), (0 : Int32), (0 : Int32))).bind (fun o22 =>
lt_ (fX11_gives o22 s0) (fun r10 =>
some (r10.1, r10.2)))) else (
lt_ (fX11_refuse (1 : Int32) s0) (fun r11 =>
some (r11.1, r11.2))))
noncomputable def fX11_stairs_L73 (p2 : Int32) (s0 : Rc) (q73 : Int32) : Option (Int32 ⊕ ((Unit) ⊕ (Unit))) :=
if (ga s0 0 (1 : Int32).toNatClampNeg) ≤ q73 then (
some (.inr (.inr ()))) else (
gd (inb (((60 : Int32) * p2) + q73) 240) (
if (fX11_isFrom (gb s0 7 (((60 : Int32) * p2) + q73).toNatClampNeg) (0 : Int64) (999 : Int64)) = (0 : Int32) then (
some (.inr (.inl ()))) else (
some (.inl (q73 + (1 : Int32))))))
noncomputable def fX11_stairs_L124 (p1 : Int32) (p2 : Int32) (p3 : Int32) (s0 : Rc) (q124 : Int32 × Int32) : Option ((Int32 × Int32) ⊕ Int32) :=
if (ga s0 0 (1 : Int32).toNatClampNeg) ≤ q124.2 then (
some (.inr q124.1)) else (
(fX11_felt p1 q124.2 s0).bind (fun r18 =>
if r18 = (0 : Int32) then (
lt_ (q124.1 + (0 : Int32)) (fun x21 =>
some (.inl (x21, (q124.2 + (1 : Int32)))))) else (
(fX11_shouldFeel p1 q124.2 s0).bind (fun r22 =>
if r22 = (0 : Int32) then (
gd (inb (((60 : Int32) * p2) + q124.2) 240) (
if (gb s0 7 (((60 : Int32) * p2) + q124.2).toNatClampNeg) < p3.toInt64 then (
lt_ (q124.1 + (0 : Int32)) (fun x28 =>
some (.inl (x28, (q124.2 + (1 : Int32)))))) else (
lt_ (q124.1 + (1 : Int32)) (fun x29 =>
some (.inl (x29, (q124.2 + (1 : Int32)))))))) else (
lt_ (q124.1 + (0 : Int32)) (fun x25 =>
some (.inl (x25, (q124.2 + (1 : Int32))))))))))
noncomputable def fX11_stairs (p1 : Int32) (p2 : Int32) (p3 : Int32) (s0 : Rc) : Option (Int32 × Rc) :=
if (fX11_isFarmer p1 s0) = (0 : Int32) then (
lt_ (fX11_refuse (1 : Int32) s0) (fun r3 =>
some (r3.1, r3.2))) else (
if (fX11_isTray p2) = (0 : Int32) then (
lt_ (fX11_refuse (1 : Int32) s0) (fun r6 =>
some (r6.1, r6.2))) else (
if (fX11_isFrom p3.toInt64 (1 : Int64) (999 : Int64)) = (0 : Int32) then (
lt_ (fX11_refuse (1 : Int32) s0) (fun r33 =>
some (r33.1, r33.2))) else (
gd (inb p2 4) (
if (ga s0 6 p2.toNatClampNeg) = (-1 : Int32) then (
lt_ (fX11_refuse (2 : Int32) s0) (fun r32 =>
some (r32.1, r32.2))) else (
if (ga s0 0 (1 : Int32).toNatClampNeg) ≤ (ga s0 6 p2.toNatClampNeg) then (
(loopF (fX11_stairs_L73 p2 s0) (0 : Int32)).bind (fun o73 =>
Sum.elim (fun o73a =>
lt_ (fX11_refuse (5 : Int32) s0) (fun r16 =>
some (r16.1, r16.2))) (fun o73b =>
(loopF (fX11_stairs_L124 p1 p2 p3 s0) ((0 : Int32), (0 : Int32))).bind (fun o124 =>
lt_ (fX11_gives o124 s0) (fun r30 =>
some (r30.1, r30.2)))) o73)) else (
lt_ (fX11_refuse (3 : Int32) s0) (fun r31 =>
some (r31.1, r31.2))))))))
noncomputable def fX11_status (s0 : Rc) : Int32 :=
(gi s0 2)
noncomputable def fX11_streak_J49 (q21 : Int32 × Int32 × Int32) (z49_0 : Int32) : Option ((Int32 × Int32 × Int32) ⊕ Int32) :=
lt_ (if q21.1 < z49_0 then z49_0 else q21.1) (fun x3 =>
some (.inl (x3, z49_0, (q21.2.2 + (1 : Int32)))))
noncomputable def fX11_streak_L21 (p1 : Int32) (s0 : Rc) (q21 : Int32 × Int32 × Int32) : Option ((Int32 × Int32 × Int32) ⊕ Int32) :=
if (ga s0 0 (1 : Int32).toNatClampNeg) ≤ q21.2.2 then (
some (.inr q21.1)) else (
(fX11_isRight p1 q21.2.2 s0).bind (fun r5 =>
if r5 = (0 : Int32) then (
fX11_streak_J49 q21 (0 : Int32)) else (
fX11_streak_J49 q21 (q21.2.1 + (1 : Int32)))))
noncomputable def fX11_streak (p1 : Int32) (s0 : Rc) : Option (Int32 × Rc) :=
if (fX11_isFarmer p1 s0) = (0 : Int32) then (
lt_ (fX11_refuse (1 : Int32) s0) (fun r9 =>
some (r9.1, r9.2))) else (
(loopF (fX11_streak_L21 p1 s0) ((0 : Int32), (0 : Int32), (0 : Int32))).bind (fun o21 =>
lt_ (fX11_gives o21 s0) (fun r8 =>
some (r8.1, r8.2))))
noncomputable def fX11_sure_L33 (p1 : Int32) (s0 : Rc) (q33 : Int32 × Int32) : Option ((Int32 × Int32) ⊕ Int32) :=
if (ga s0 0 (0 : Int32).toNatClampNeg) ≤ q33.2 then (
some (.inr q33.1)) else (
(fX11_tellOf q33.2 p1 s0).bind (fun r6 =>
if r6 = (-1 : Int32) then (
lt_ (q33.1 + (0 : Int32)) (fun x14 =>
some (.inl (x14, (q33.2 + (1 : Int32)))))) else (
(fX11_tellOf q33.2 p1 s0).bind (fun r8 =>
if r8 = (1 : Int32) then (
gd (inb ((fX11_farmerRow (0 : Int32) q33.2) + (5 : Int32)) 6240) (
lt_ (q33.1 + (ga s0 0 ((fX11_farmerRow (0 : Int32) q33.2) + (5 : Int32)).toNatClampNeg)) (fun x13 =>
some (.inl (x13, (q33.2 + (1 : Int32))))))) else (
gd (inb ((fX11_farmerRow (0 : Int32) q33.2) + (5 : Int32)) 6240) (
lt_ (q33.1 + (-(ga s0 0 ((fX11_farmerRow (0 : Int32) q33.2) + (5 : Int32)).toNatClampNeg))) (fun x11 =>
some (.inl (x11, (q33.2 + (1 : Int32)))))))))))
noncomputable def fX11_sure (p1 : Int32) (s0 : Rc) : Option (Int32 × Rc) :=
if (fX11_isAsked p1) = (0 : Int32) then (
lt_ (fX11_refuse (1 : Int32) s0) (fun r17 =>
some (r17.1, r17.2))) else (
(fX11_sayOf p1 s0).bind (fun r3 =>
if r3 = (-1 : Int32) then (
lt_ (fX11_refuse (6 : Int32) s0) (fun r16 =>
some (r16.1, r16.2))) else (
(loopF (fX11_sure_L33 p1 s0) ((0 : Int32), (0 : Int32))).bind (fun o33 =>
lt_ (fX11_gives o33 s0) (fun r15 =>
some (r15.1, r15.2))))))
noncomputable def fX11_tells (p1 : Int32) (p2 : Int32) (s0 : Rc) : Option (Int32 × Rc) :=
if (fX11_isFarmer p1 s0) = (0 : Int32) then (
lt_ (fX11_refuse (1 : Int32) s0) (fun r3 =>
some (r3.1, r3.2))) else (
if (fX11_isAsked p2) = (0 : Int32) then (
lt_ (fX11_refuse (1 : Int32) s0) (fun r6 =>
some (r6.1, r6.2))) else (
(fX11_tellOf p1 p2 s0).bind (fun r7 =>
lt_ (fX11_orNone r7 s0) (fun r8 =>
some (r8.1, r8.2)))))
noncomputable def fX11_tips_L33 (p1 : Int32) (q33 : Int32 × Int32 × Rc) : Option ((Int32 × Int32 × Rc) ⊕ (Int32 × Rc)) :=
if (ga q33.2.2 0 (0 : Int32).toNatClampNeg) ≤ q33.2.1 then (
some (.inr (q33.1, q33.2.2))) else (
(fX11_tellOf q33.2.1 p1 q33.2.2).bind (fun r6 =>
if r6 = (-1 : Int32) then (
lt_ (q33.1 ||| (0 : Int32)) (fun x8 =>
some (.inl (x8, (q33.2.1 + (1 : Int32)), q33.2.2)))) else (
(fX11_isTurned ((1 : Int32) <<< (q33.2.1 &&& 31)) p1 q33.2.2).bind (fun r9 =>
if r9.1 = (0 : Int32) then (
lt_ (q33.1 ||| (0 : Int32)) (fun x12 =>
some (.inl (x12, (q33.2.1 + (1 : Int32)), r9.2)))) else (
lt_ (q33.1 ||| ((1 : Int32) <<< (q33.2.1 &&& 31))) (fun x13 =>
some (.inl (x13, (q33.2.1 + (1 : Int32)), r9.2))))))))
noncomputable def fX11_tips (p1 : Int32) (s0 : Rc) : Option (Int32 × Rc) :=
if (fX11_isAsked p1) = (0 : Int32) then (
lt_ (fX11_refuse (1 : Int32) s0) (fun r16 =>
some (r16.1, r16.2))) else (
(fX11_sayOf p1 s0).bind (fun r3 =>
if r3 = (-1 : Int32) then (
lt_ (fX11_refuse (6 : Int32) s0) (fun r15 =>
some (r15.1, r15.2))) else (
(loopF (fX11_tips_L33 p1) ((0 : Int32), (0 : Int32), s0)).bind (fun o33 =>
lt_ (fX11_gives o33.1 o33.2) (fun r14 =>
some (r14.1, r14.2))))))
noncomputable def fX11_told_J43 (p1 : Int32) (s0 : Rc) (q19 : Int32 × Int32) (z43_0 : Int32) : Option ((Int32 × Int32) ⊕ Int32) :=
if p1 = (3 : Int32) then (
gd (inb ((122 : Int32) + q19.2) 6240) (
if (ga s0 0 ((122 : Int32) + q19.2).toNatClampNeg) = (2 : Int32) then (
lt_ (z43_0 + (1 : Int32)) (fun x9 =>
some (.inl (x9, (q19.2 + (1 : Int32)))))) else (
lt_ (z43_0 + (0 : Int32)) (fun x8 =>
some (.inl (x8, (q19.2 + (1 : Int32)))))))) else (
lt_ (z43_0 + (0 : Int32)) (fun x5 =>
some (.inl (x5, (q19.2 + (1 : Int32))))))
noncomputable def fX11_told_L19 (p1 : Int32) (s0 : Rc) (q19 : Int32 × Int32) : Option ((Int32 × Int32) ⊕ Int32) :=
if (ga s0 0 (1 : Int32).toNatClampNeg) ≤ q19.2 then (
some (.inr q19.1)) else (
if p1 = (2 : Int32) then (
(fX11_isWet q19.2 s0).bind (fun r12 =>
if r12 = (0 : Int32) then (
fX11_told_J43 p1 s0 q19 q19.1) else (
lt_ (q19.1 + (1 : Int32)) (fun x15 =>
some (.inl (x15, (q19.2 + (1 : Int32)))))))) else (
fX11_told_J43 p1 s0 q19 q19.1))
noncomputable def fX11_told (p1 : Int32) (s0 : Rc) : Option (Int32 × Rc) :=
if p1 < (0 : Int32) then (
lt_ (fX11_refuse (1 : Int32) s0) (fun r2 =>
some (r2.1, r2.2))) else (
if p1 ≤ (4 : Int32) then (
(loopF (fX11_told_L19 p1 s0) ((0 : Int32), (0 : Int32))).bind (fun o19 =>
if p1 = (0 : Int32) then (
lt_ (fX11_gives (ga s0 0 (0 : Int32).toNatClampNeg) s0) (fun r22 =>
some (r22.1, r22.2))) else (
if p1 = (1 : Int32) then (
lt_ (fX11_gives (ga s0 0 (1 : Int32).toNatClampNeg) s0) (fun r21 =>
some (r21.1, r21.2))) else (
if p1 = (4 : Int32) then (
lt_ (fX11_gives (ga s0 0 (2 : Int32).toNatClampNeg) s0) (fun r20 =>
some (r20.1, r20.2))) else (
lt_ (fX11_gives o19 s0) (fun r19 =>
some (r19.1, r19.2))))))) else (
lt_ (fX11_refuse (1 : Int32) s0) (fun r23 =>
some (r23.1, r23.2))))
noncomputable def fX11_toldOf_L4 (p1 : Int32) (s0 : Rc) (q4 : Int32 × Int32) : Option ((Int32 × Int32) ⊕ Int32) :=
if (ga s0 0 (1 : Int32).toNatClampNeg) ≤ q4.2 then (
some (.inr q4.1)) else (
(fX11_tellOf p1 q4.2 s0).bind (fun r2 =>
if r2 = (-1 : Int32) then (
lt_ (q4.1 + (0 : Int32)) (fun x4 =>
some (.inl (x4, (q4.2 + (1 : Int32)))))) else (
lt_ (q4.1 + (1 : Int32)) (fun x5 =>
some (.inl (x5, (q4.2 + (1 : Int32))))))))
noncomputable def fX11_toldOf (p1 : Int32) (s0 : Rc) : Option (Int32) :=
(loopF (fX11_toldOf_L4 p1 s0) ((0 : Int32), (0 : Int32))).bind (fun o4 =>
some o4)
noncomputable def fX11_toldBy (p1 : Int32) (s0 : Rc) : Option (Int32 × Rc) :=
if (fX11_isFarmer p1 s0) = (0 : Int32) then (
lt_ (fX11_refuse (1 : Int32) s0) (fun r3 =>
some (r3.1, r3.2))) else (
(fX11_toldOf p1 s0).bind (fun r4 =>
lt_ (fX11_gives r4 s0) (fun r5 =>
some (r5.1, r5.2))))
noncomputable def fX11_top (s0 : Rc) : Int64 :=
(gl s0 3)
noncomputable def fX11_tray_L49 (p1 : Int32) (p3 : Int32) (q49 : Int32 × Rc) : Option ((Int32 × Rc) ⊕ Rc) :=
if p3 ≤ q49.1 then (
some (.inr q49.2)) else (
gd (inb (((60 : Int32) * p1) + q49.1) 240) (
lt_ (sb q49.2 7 (vp_updL (gb q49.2 7) (((60 : Int32) * p1) + q49.1).toNatClampNeg (0 : Int64))) (fun s0_20 =>
some (.inl ((q49.1 + (1 : Int32)), s0_20)))))
noncomputable def fX11_tray (p1 : Int32) (p2 : Int32) (p3 : Int32) (s0 : Rc) : Option (Int32 × Rc) :=
if (fX11_isTray p1) = (0 : Int32) then (
lt_ (fX11_is (1 : Int32) s0) (fun r3 =>
some (r3.1, r3.2))) else (
if p2 < (0 : Int32) then (
lt_ (fX11_is (1 : Int32) s0) (fun r6 =>
some (r6.1, r6.2))) else (
if (3 : Int32) < p2 then (
lt_ (fX11_is (1 : Int32) s0) (fun r9 =>
some (r9.1, r9.2))) else (
if p3 < (0 : Int32) then (
lt_ (fX11_is (1 : Int32) s0) (fun r12 =>
some (r12.1, r12.2))) else (
if p3 ≤ (60 : Int32) then (
gd (inb p1 4) (
lt_ (sa s0 5 (upd (ga s0 5) p1.toNatClampNeg p2)) (fun s0_16 =>
lt_ (sa s0_16 6 (upd (ga s0_16 6) p1.toNatClampNeg p3)) (fun s0_17 =>
(loopF (fX11_tray_L49 p1 p3) ((0 : Int32), s0_17)).bind (fun o49 =>
lt_ (fX11_is (0 : Int32) o49) (fun r21 =>
some (r21.1, r21.2))))))) else (
lt_ (fX11_is (1 : Int32) s0) (fun r23 =>
some (r23.1, r23.2)))))))
noncomputable def fX11_truest_L4 (s0 : Rc) (q4 : Int32 × Int32) : Option ((Int32 × Int32) ⊕ Int32) :=
if (ga s0 0 (0 : Int32).toNatClampNeg) ≤ q4.2 then (
some (.inr q4.1)) else (
(fX11_toldOf q4.2 s0).bind (fun r2 =>
if r2 ≤ (0 : Int32) then (
some (.inl (q4.1, (q4.2 + (1 : Int32))))) else (
if q4.1 = (-1 : Int32) then (
some (.inl (q4.2, (q4.2 + (1 : Int32))))) else (
(fX11_rightOf q4.2 s0).bind (fun r5 =>
(fX11_toldOf q4.1 s0).bind (fun r6 =>
(fX11_rightOf q4.1 s0).bind (fun r7 =>
(fX11_toldOf q4.2 s0).bind (fun r8 =>
if (r5 * r6) ≤ (r7 * r8) then (
some (.inl (q4.1, (q4.2 + (1 : Int32))))) else (
some (.inl (q4.2, (q4.2 + (1 : Int32)))))))))))))
noncomputable def fX11_truest (s0 : Rc) : Option (Int32 × Rc) :=
(loopF (fX11_truest_L4 s0) ((-1 : Int32), (0 : Int32))).bind (fun o4 =>
lt_ (fX11_orNone o4 s0) (fun r10 =>
some (r10.1, r10.2)))
noncomputable def fX11_trust (p1 : Int32) (s0 : Rc) : Option (Int32 × Rc) :=
if (fX11_isFarmer p1 s0) = (0 : Int32) then (
lt_ (fX11_is (1 : Int32) s0) (fun r11 =>
some (r11.1, r11.2))) else (
(fX11_toldOf p1 s0).bind (fun r3 =>
if r3 = (0 : Int32) then (
lt_ (fX11_is (6 : Int32) s0) (fun r9 =>
some (r9.1, r9.2))) else (
(fX11_rightOf p1 s0).bind (fun r5 =>
(fX11_toldOf p1 s0).bind (fun r6 =>
(fX11_tellsBy r5.toInt64 r6.toInt64 s0).bind (fun r7 =>
some (r7.1, r7.2)))))))
noncomputable def fX11_twinge (p1 : Int32) (p2 : Int32) (p3 : Int32) (s0 : Rc) : Option (Int32 × Rc) :=
if (fX11_isIn p1 p2 s0) = (0 : Int32) then (
lt_ (fX11_is (1 : Int32) s0) (fun r12 =>
some (r12.1, r12.2))) else (
if p3 = (0 : Int32) then (
gd (inb (fX11_twingeRow p1 p2) 6240) (
lt_ (sa s0 0 (upd (ga s0 0) (fX11_twingeRow p1 p2).toNatClampNeg (0 : Int32))) (fun s0_5 =>
lt_ (fX11_is (0 : Int32) s0_5) (fun r6 =>
some (r6.1, r6.2))))) else (
gd (inb (fX11_twingeRow p1 p2) 6240) (
lt_ (sa s0 0 (upd (ga s0 0) (fX11_twingeRow p1 p2).toNatClampNeg (1 : Int32))) (fun s0_9 =>
lt_ (fX11_is (0 : Int32) s0_9) (fun r10 =>
some (r10.1, r10.2))))))
noncomputable def fX11_twinges (p1 : Int32) (p2 : Int32) (s0 : Rc) : Option (Int32 × Rc) :=
if (fX11_isIn p1 p2 s0) = (0 : Int32) then (
lt_ (fX11_refuse (1 : Int32) s0) (fun r3 =>
some (r3.1, r3.2))) else (
gd (inb (fX11_twingeRow p1 p2) 6240) (
lt_ (fX11_gives (ga s0 0 (fX11_twingeRow p1 p2).toNatClampNeg) s0) (fun r5 =>
some (r5.1, r5.2))))
noncomputable def fX11_useful (p1 : Int32) (s0 : Rc) : Option (Int32 × Rc) :=
if (fX11_isFarmer p1 s0) = (0 : Int32) then (
lt_ (fX11_refuse (1 : Int32) s0) (fun r8 =>
some (r8.1, r8.2))) else (
(fX11_keptOf s0).bind (fun r3 =>
lt_ (si s0 25 p1) (fun s0_4 =>
(fX11_keptOf s0_4).bind (fun r5 =>
lt_ (si s0_4 25 (-1 : Int32)) (fun s0_6 =>
lt_ (fX11_gives (r3 - r5) s0_6) (fun r7 =>
some (r7.1, r7.2)))))))
noncomputable def fX11_warned_J95 (q19 : Int32 × Int32) (z95_0 : Int32) (z95_1 : Int32) (z95_2 : Int32) : Option ((Int32 × Int32) ⊕ Int32) :=
if z95_1 = z95_0 then (
lt_ (z95_2 + (1 : Int32)) (fun x6 =>
some (.inl (x6, (q19.2 + (1 : Int32)))))) else (
lt_ (z95_2 + (0 : Int32)) (fun x5 =>
some (.inl (x5, (q19.2 + (1 : Int32))))))
noncomputable def fX11_warned_L35 (s0 : Rc) (q19 : Int32 × Int32) (q35 : Int32 × Int32) : Option ((Int32 × Int32) ⊕ Int32) :=
if (ga s0 0 (0 : Int32).toNatClampNeg) ≤ q35.2 then (
some (.inr q35.1)) else (
if q35.1 = (0 : Int32) then (
(fX11_tellOf q35.2 q19.2 s0).bind (fun r10 =>
if r10 = (1 : Int32) then (
some (.inl ((1 : Int32), (q35.2 + (1 : Int32))))) else (
some (.inl ((0 : Int32), (q35.2 + (1 : Int32))))))) else (
some (.inl ((1 : Int32), (q35.2 + (1 : Int32))))))
noncomputable def fX11_warned_L19 (p1 : Int32) (s0 : Rc) (q19 : Int32 × Int32) : Option ((Int32 × Int32) ⊕ Int32) :=
if (ga s0 0 (1 : Int32).toNatClampNeg) ≤ q19.2 then (
some (.inr q19.1)) else (
(loopF (fX11_warned_L35 s0 q19) ((0 : Int32), (0 : Int32))).bind (fun o35 =>
(fX11_isWet q19.2 s0).bind (fun r12 =>
if r12 = (0 : Int32) then (
lt_ (q19.1 + (0 : Int32)) (fun x15 =>
some (.inl (x15, (q19.2 + (1 : Int32)))))) else (
if p1 = (0 : Int32) then (
fX11_warned_J95 q19 (1 : Int32) o35 q19.1) else (
fX11_warned_J95 q19 (0 : Int32) o35 q19.1)))))
noncomputable def fX11_warned (p1 : Int32) (s0 : Rc) : Option (Int32 × Rc) :=
if p1 < (0 : Int32) then (
lt_ (fX11_refuse (1 : Int32) s0) (fun r2 =>
some (r2.1, r2.2))) else (
if p1 ≤ (1 : Int32) then (
(loopF (fX11_warned_L19 p1 s0) ((0 : Int32), (0 : Int32))).bind (fun o19 =>
lt_ (fX11_gives o19 s0) (fun r17 =>
some (r17.1, r17.2)))) else (
lt_ (fX11_refuse (1 : Int32) s0) (fun r18 =>
some (r18.1, r18.2))))
noncomputable def fX11_weather (p1 : Int32) (s0 : Rc) : Option (Int32 × Rc) :=
if (fX11_isDay p1 s0) = (0 : Int32) then (
lt_ (fX11_refuse (1 : Int32) s0) (fun r3 =>
some (r3.1, r3.2))) else (
gd (inb ((122 : Int32) + p1) 6240) (
lt_ (fX11_gives (ga s0 0 ((122 : Int32) + p1).toNatClampNeg) s0) (fun r5 =>
some (r5.1, r5.2))))
noncomputable def fX11_wedding_L34 (s0 : Rc) (q22 : Int32 × Int32 × Int32) (q34 : Int32 × Int32) : Option ((Int32 × Int32) ⊕ Int32) :=
if (ga s0 0 (0 : Int32).toNatClampNeg) ≤ q34.2 then (
some (.inr q34.1)) else (
(fX11_tellOf q34.2 q22.2.2 s0).bind (fun r5 =>
if r5 = (-1 : Int32) then (
lt_ (q34.1 + (0 : Int32)) (fun x13 =>
some (.inl (x13, (q34.2 + (1 : Int32)))))) else (
(fX11_tellOf q34.2 q22.2.2 s0).bind (fun r7 =>
if r7 = (0 : Int32) then (
gd (inb ((fX11_farmerRow (0 : Int32) q34.2) + (5 : Int32)) 6240) (
lt_ (q34.1 + (ga s0 0 ((fX11_farmerRow (0 : Int32) q34.2) + (5 : Int32)).toNatClampNeg)) (fun x12 =>
some (.inl (x12, (q34.2 + (1 : Int32))))))) else (
gd (inb ((fX11_farmerRow (0 : Int32) q34.2) + (5 : Int32)) 6240) (
lt_ (q34.1 + (-(ga s0 0 ((fX11_farmerRow (0 : Int32) q34.2) + (5 : Int32)).toNatClampNeg))) (fun x10 =>
some (.inl (x10, (q34.2 + (1 : Int32)))))))))))
noncomputable def fX11_wedding_L22 (p2 : Int32) (s0 : Rc) (q22 : Int32 × Int32 × Int32) : Option ((Int32 × Int32 × Int32) ⊕ Int32) :=
if p2 < q22.2.2 then (
some (.inr q22.1)) else (
(loopF (fX11_wedding_L34 s0 q22) ((0 : Int32), (0 : Int32))).bind (fun o34 =>
if q22.1 = (-1 : Int32) then (
some (.inl (q22.2.2, o34, (q22.2.2 + (1 : Int32))))) else (
if q22.2.1 < o34 then (
some (.inl (q22.2.2, o34, (q22.2.2 + (1 : Int32))))) else (
some (.inl (q22.1, q22.2.1, (q22.2.2 + (1 : Int32))))))))
noncomputable def fX11_wedding (p1 : Int32) (p2 : Int32) (s0 : Rc) : Option (Int32 × Rc) :=
if (fX11_isSpan p1 p2) = (0 : Int32) then (
lt_ (fX11_refuse (1 : Int32) s0) (fun r17 =>
some (r17.1, r17.2))) else (
(loopF (fX11_wedding_L22 p2 s0) ((-1 : Int32), (0 : Int32), p1)).bind (fun o22 =>
lt_ (fX11_gives o22 s0) (fun r16 =>
some (r16.1, r16.2))))
noncomputable def fX11_weigh (p1 : Int32) (p2 : Int32) (s0 : Rc) : Option (Int32 × Rc) :=
if (fX11_isFarmer p1 s0) = (0 : Int32) then (
lt_ (fX11_is (1 : Int32) s0) (fun r3 =>
some (r3.1, r3.2))) else (
if (fX11_isFrom p2.toInt64 (1 : Int64) (64 : Int64)) = (0 : Int32) then (
lt_ (fX11_is (1 : Int32) s0) (fun r11 =>
some (r11.1, r11.2))) else (
gd (inb ((fX11_farmerRow (0 : Int32) p1) + (5 : Int32)) 6240) (
lt_ (sa s0 0 (upd (ga s0 0) ((fX11_farmerRow (0 : Int32) p1) + (5 : Int32)).toNatClampNeg p2)) (fun s0_8 =>
lt_ (fX11_is (0 : Int32) s0_8) (fun r9 =>
some (r9.1, r9.2))))))
noncomputable def fX11_write (p1 : Int32) (p2 : Int32) (p3 : Int64) (s0 : Rc) : Option (Int32 × Rc) :=
(fX11_wrongPlace p1 p2 s0).bind (fun r1 =>
if r1 = (0 : Int32) then (
gd (inb p1 4) (
gd (inb (((60 : Int32) * p1) + p2) 240) (
lt_ (sb s0 7 (vp_updL (gb s0 7) (((60 : Int32) * p1) + p2).toNatClampNeg (fX11_cut p3 (ga s0 5 p1.toNatClampNeg)))) (fun s0_7 =>
lt_ (fX11_is r1 s0_7) (fun r8 =>
some (r8.1, r8.2)))))) else (
lt_ (fX11_is r1 s0) (fun r3 =>
some (r3.1, r3.2))))
noncomputable def fX11_wrongs_J76 (q28 : Int32 × Int32) (z76_0 : Int32) (z76_1 : Int32) (z76_2 : Int32) : Option ((Int32 × Int32) ⊕ Int32) :=
if z76_1 = z76_0 then (
lt_ (z76_2 + (1 : Int32)) (fun x9 =>
some (.inl (x9, (q28.2 + (1 : Int32)))))) else (
lt_ (z76_2 + (0 : Int32)) (fun x8 =>
some (.inl (x8, (q28.2 + (1 : Int32))))))
noncomputable def fX11_wrongs_J56 (p1 : Int32) (p2 : Int32) (s0 : Rc) (q28 : Int32 × Int32) (z56_0 : Int32) (z56_1 : Int32) (z56_2 : Int32) : Option ((Int32 × Int32) ⊕ Int32) :=
if z56_1 = z56_0 then (
(fX11_shouldFeel p1 q28.2 s0).bind (fun r12 =>
if p2 = (1 : Int32) then (
fX11_wrongs_J76 q28 (1 : Int32) r12 z56_2) else (
fX11_wrongs_J76 q28 (0 : Int32) r12 z56_2))) else (
lt_ (z56_2 + (0 : Int32)) (fun x11 =>
some (.inl (x11, (q28.2 + (1 : Int32))))))
noncomputable def fX11_wrongs_L28 (p1 : Int32) (p2 : Int32) (s0 : Rc) (q28 : Int32 × Int32) : Option ((Int32 × Int32) ⊕ Int32) :=
if (ga s0 0 (1 : Int32).toNatClampNeg) ≤ q28.2 then (
some (.inr q28.1)) else (
(fX11_felt p1 q28.2 s0).bind (fun r16 =>
if p2 = (0 : Int32) then (
fX11_wrongs_J56 p1 p2 s0 q28 (1 : Int32) r16 q28.1) else (
fX11_wrongs_J56 p1 p2 s0 q28 (0 : Int32) r16 q28.1)))
noncomputable def fX11_wrongs (p1 : Int32) (p2 : Int32) (s0 : Rc) : Option (Int32 × Rc) :=
if (fX11_isFarmer p1 s0) = (0 : Int32) then (
lt_ (fX11_refuse (1 : Int32) s0) (fun r3 =>
some (r3.1, r3.2))) else (
if p2 < (0 : Int32) then (
lt_ (fX11_refuse (1 : Int32) s0) (fun r5 =>
some (r5.1, r5.2))) else (
if p2 ≤ (1 : Int32) then (
(loopF (fX11_wrongs_L28 p1 p2 s0) ((0 : Int32), (0 : Int32))).bind (fun o28 =>
lt_ (fX11_gives o28 s0) (fun r19 =>
some (r19.1, r19.2)))) else (
lt_ (fX11_refuse (1 : Int32) s0) (fun r20 =>
some (r20.1, r20.2)))))
def zX2 : Rc := zr
def zX0 : Rc := zr
def zX5 : Rc := zr
def zX4 : Rc := zr
noncomputable def fX9_init_L29 (q29 : Int32 × Rc) : Option ((Int32 × Rc) ⊕ Rc) :=
if (4 : Int32) ≤ q29.1 then (
some (.inr q29.2)) else (
gd (inb q29.1 4) (
lt_ (sa q29.2 2 (upd (ga q29.2 2) q29.1.toNatClampNeg (-1 : Int32))) (fun s0_3 =>
some (.inl ((q29.1 + (1 : Int32)), s0_3)))))
noncomputable def fX9_init (s0 : Rc) : Option Rc :=
(loopF (fX9_init_L29) ((0 : Int32), s0)).bind (fun o29 =>
some o29)
def zX9 : Rc := zr
noncomputable def fX8_init_L90 (q90 : Int32 × Int64 × Int32 × Rc) : Option ((Int32 × Int64 × Int32 × Rc) ⊕ Rc) :=
if (166 : Int32) ≤ q90.2.2.1 then (
some (.inr q90.2.2.2)) else (
if (30 : Int32) ≤ q90.1 then (
some (.inr q90.2.2.2)) else (
gd (inb q90.2.2.1 166) (
lt_ (chv by0 q90.2.2.1) (fun x4 =>
if x4 = (32 : Int32) then (
gd (inb q90.1 30) (
lt_ (sb q90.2.2.2 1 (vp_updL (gb q90.2.2.2 1) q90.1.toNatClampNeg q90.2.1)) (fun s0_8 =>
some (.inl ((q90.1 + (1 : Int32)), (0 : Int64), (q90.2.2.1 + (1 : Int32)), s0_8))))) else (
lt_ (fX8_withLetter q90.2.1 x4) (fun x6 =>
some (.inl (q90.1, x6, (q90.2.2.1 + (1 : Int32)), q90.2.2.2))))))))
noncomputable def fX8_init (s0 : Rc) : Option Rc :=
(loopF (fX8_init_L90) ((0 : Int32), (0 : Int64), (0 : Int32), s0)).bind (fun o90 =>
some o90)
def zX8 : Rc := (si (si (si (sl zr 7 (-1 : Int64)) 8 (-1 : Int32)) 12 (-1 : Int32)) 13 (-1 : Int32))
def zX1 : Rc := zr
def zX6 : Rc := zr
def zX3 : Rc := (si zr 2 (-1 : Int32))
def zX7 : Rc := zr
def zX10 : Rc := (sl zr 18 (1 : Int64))
noncomputable def fX11_init (s0 : Rc) : Option Rc :=
(fX11_plain (0 : Int32) s0).bind (fun r1 =>
some r1)
def zX11 : Rc := (si (si (si (sl (sa zr 6 (upd (upd (upd (upd (fun _ => 0) (0 : Int32).toNatClampNeg (-1 : Int32)) (1 : Int32).toNatClampNeg (-1 : Int32)) (2 : Int32).toNatClampNeg (-1 : Int32)) (3 : Int32).toNatClampNeg (-1 : Int32))) 4 (1 : Int64)) 16 (-1 : Int32)) 17 (-1 : Int32)) 25 (-1 : Int32))
noncomputable def fX10_mark (s0 : Rc) (s1 : Rc) (s2 : Rc) (s3 : Rc) (s4 : Rc) (s5 : Rc) (s6 : Rc) (s7 : Rc) (s8 : Rc) (s9 : Rc) (s10 : Rc) (s11 : Rc) : Option (Int32 × Rc × Rc × Rc × Rc × Rc × Rc × Rc) :=
if (gi s0 15) < (3 : Int32) then (
if (gi s0 15) = 0 then (
(fX4_keep s3 s4 s5 s1 s2).bind (fun r4 =>
lt_ (si s0 15 ((gi s0 15) + (1 : Int32))) (fun s0_5 =>
lt_ (fX10_answer (gi s0_5 15) s0_5) (fun r6 =>
some (r6.1, r6.2, r4.1, r4.2, s7, s8, s10, s11))))) else (
if (gi s0 15) = 1 then (
(fX4_keep s6 s7 s8 s1 s2).bind (fun r7 =>
lt_ (si s0 15 ((gi s0 15) + (1 : Int32))) (fun s0_8 =>
lt_ (fX10_answer (gi s0_8 15) s0_8) (fun r9 =>
some (r9.1, r9.2, s4, s5, r7.1, r7.2, s10, s11))))) else (
(fX4_keep s9 s10 s11 s1 s2).bind (fun r10 =>
lt_ (si s0 15 ((gi s0 15) + (1 : Int32))) (fun s0_11 =>
lt_ (fX10_answer (gi s0_11 15) s0_11) (fun r12 =>
some (r12.1, r12.2, s4, s5, s7, s8, r10.1, r10.2))))))) else (
lt_ (fX10_refuse (4 : Int32) s0) (fun r13 =>
some (r13.1, r13.2, s4, s5, s7, s8, s10, s11)))
noncomputable def fX10_back (s0 : Rc) (s1 : Rc) (s2 : Rc) (s3 : Rc) (s4 : Rc) (s5 : Rc) (s6 : Rc) (s7 : Rc) (s8 : Rc) (s9 : Rc) (s10 : Rc) (s11 : Rc) : Option (Int32 × Rc × Rc × Rc) :=
if (gi s0 15) = (0 : Int32) then (
lt_ (fX10_refuse (6 : Int32) s0) (fun r11 =>
some (r11.1, r11.2, s1, s2))) else (
lt_ (si s0 15 ((gi s0 15) - (1 : Int32))) (fun s0_2 =>
if (gi s0_2 15) = 0 then (
(fX4_giveBack s3 s4 s5 s1 s2).bind (fun r5 =>
lt_ (fX10_answer (gi s0_2 15) s0_2) (fun r6 =>
some (r6.1, r6.2, r5.1, r5.2)))) else (
if (gi s0_2 15) = 1 then (
(fX4_giveBack s6 s7 s8 s1 s2).bind (fun r7 =>
lt_ (fX10_answer (gi s0_2 15) s0_2) (fun r8 =>
some (r8.1, r8.2, r7.1, r7.2)))) else (
(fX4_giveBack s9 s10 s11 s1 s2).bind (fun r9 =>
lt_ (fX10_answer (gi s0_2 15) s0_2) (fun r10 =>
some (r10.1, r10.2, r9.1, r9.2)))))))
