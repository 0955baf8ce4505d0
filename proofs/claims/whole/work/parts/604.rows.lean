/-! ===== rows that the walks use beside the kit's ===== -/
theorem lg_ceq {x y : Int64} : lg_cmp x y = 0 ↔ x = y := by
  unfold lg_cmp
  constructor
  · intro h
    by_cases c1 : x > y
    · rw [if_pos c1] at h; exact absurd h (by decide)
    · rw [if_neg c1] at h
      by_cases c2 : x = y
      · exact c2
      · rw [if_neg c2] at h; exact absurd h (by decide)
  · intro h
    rw [if_neg (by rw [h]; exact Int64.lt_irrefl), if_pos h]
theorem lg_cgt {x y : Int64} : 0 < lg_cmp x y ↔ y < x := by
  unfold lg_cmp
  by_cases c1 : x > y
  · rw [if_pos c1]; exact ⟨fun _ => c1, fun _ => by decide⟩
  · rw [if_neg c1]
    refine ⟨fun h => ?_, fun h => absurd h c1⟩
    by_cases c2 : x = y
    · rw [if_pos c2] at h; exact absurd h (by decide)
    · rw [if_neg c2] at h; exact absurd h (by decide)
theorem lg_cle {x y : Int64} : lg_cmp x y ≤ 0 ↔ x ≤ y := by
  rw [← Int32.not_lt, lg_cgt, Int64.not_lt]
theorem lg_clt {x y : Int64} : lg_cmp x y < 0 ↔ x < y := by
  unfold lg_cmp
  by_cases c1 : x > y
  · rw [if_pos c1]; exact ⟨fun h => absurd h (by decide), fun h => absurd (Int64.lt_trans h c1) Int64.lt_irrefl⟩
  · rw [if_neg c1]
    by_cases c2 : x = y
    · rw [if_pos c2]; exact ⟨fun h => absurd h (by decide), fun h => absurd (c2 ▸ h) Int64.lt_irrefl⟩
    · rw [if_neg c2]
      refine ⟨fun _ => ?_, fun _ => by decide⟩
      rcases Int64.lt_or_eq_of_le (Int64.not_lt.mp c1) with h | h
      · exact h
      · exact absurd h c2
theorem lg_cge {x y : Int64} : 0 ≤ lg_cmp x y ↔ y ≤ x := by
  rw [← Int32.not_lt, lg_clt, Int64.not_lt]
section ROWS
variable {p : Program} {l : Launch} {e : Env} {R : Room} {s : State} {m : MethodId} {args : Array Value} {below : List Frame} {meth : Method} {c : Code} {H : Heap} {locs : List Loc} {cells slots : Nat} {Q : State → Prop} {cc : ByteArray} {pc : Nat} {ls : Array Slot} {rest : List Value}
/-- a tableswitch that goes to its default: outside, or by a hole -/
theorem lv_tdf (hexec : p.tables.exec = Jvm.exec) (hb : c.code = cc) {dflt lo hi : Int} {offs : Array Int} {len : Nat} {x : Int32} {tgt : Nat} (hdg : decode cc pc = .ok (.tableswitch dflt lo hi offs, len)) (h : x.toInt < lo ∨ hi < x.toInt ∨ offs[(x.toInt - lo).toNat]? = some dflt) (ht : (pc : Int) + dflt = (tgt : Int))
    (k : W p l e R s m args below meth c H locs cells slots Q (F0 m tgt ls rest)) : W p l e R s m args below meth c H locs cells slots Q (F0 m pc ls (.int x :: rest)) := by
  by_cases c1 : x.toInt < lo
  · exact lv_tableOut hexec hb hdg (Or.inl c1) ht k
  · by_cases c2 : hi < x.toInt
    · exact lv_tableOut hexec hb hdg (Or.inr c2) ht k
    · rcases h with h | h | h
      · exact absurd h c1
      · exact absurd h c2
      · exact lv_tableIn hexec hb hdg c1 c2 h ht k
end ROWS
theorem lk_df {a b : Int} (h : a = b) : a = b := h
