theorem dL_law_0 : decode cL_law 0 = .ok (.new 7, 3) := by decide +kernel
theorem dL_law_3 : decode cL_law 3 = .ok (.dup, 1) := by decide +kernel
theorem dL_law_4 : decode cL_law 4 = .ok (.invokespecial 9, 3) := by decide +kernel
theorem dL_law_7 : decode cL_law 7 = .ok (.astore_n 1, 1) := by decide +kernel
theorem dL_law_8 : decode cL_law 8 = .ok (.new 10, 3) := by decide +kernel
theorem dL_law_11 : decode cL_law 11 = .ok (.dup, 1) := by decide +kernel
theorem dL_law_12 : decode cL_law 12 = .ok (.invokespecial 12, 3) := by decide +kernel
theorem dL_law_15 : decode cL_law 15 = .ok (.astore_n 2, 1) := by decide +kernel
theorem dL_law_16 : decode cL_law 16 = .ok (.iconst 0, 1) := by decide +kernel
theorem dL_law_17 : decode cL_law 17 = .ok (.istore_n 3, 1) := by decide +kernel
set_option maxHeartbeats 8000000 in
set_option maxRecDepth 100000 in
theorem whole_start {p : Program} {e : Env} {s : State} {m : MethodId} {below : List Frame} {meth : Method} {c : Code} (l : Launch) (hflags : l.flags = flags0) {b L : Nat} {xs : Nat → Int32} (hL : L ≤ 3072) (C0 : lw_At p s m meth c b L xs) : W p l e room_1 s m #[Value.ref b] below meth c s.heap [] 0 0 (lw_Z below #[Value.ref b] s) (entryFrame m ([Value.ref b] : List Value).toArray 4) := by
  obtain ⟨hx, hb, hr, hml, hown, hts, hX, hbl, hlocks, hgv⟩ := id C0
  have hA : ∀ q : Nat, s.heap.size ≤ q → (fun q : Nat => s.heap.size ≤ q) q := fun _ h => h
  have hbA : ¬ (fun q : Nat => s.heap.size ≤ q) b := Nat.not_le.mpr hbl
  have htsL : ∀ w ∈ wsL_law, w.before #[Value.ref b] s = true := fun w hw => hts w (wsL_law_in w hw)
  have hN : NW s := NW_of hts
  obtain ⟨S, hSX⟩ := SX_of (A := fun q : Nat => s.heap.size ≤ q) hts hgv (fun a h => Nat.not_le.mpr h)
  obtain ⟨D, hKc⟩ := known_all hts
  obtain ⟨cy, hKa⟩ := arrs_all hts
  have hK : va_K D vwCl (tyL cy) s := ⟨hKc, hKa⟩
  obtain ⟨r9, r8, r11, a9, a8, a11, hRel⟩ := rel_start
  have hown : s.vm.findClass RL = some m.cls := hown
  have hC : LC p s m meth c b L xs D cy S (fun q : Nat => s.heap.size ≤ q) := ⟨hx, hb, hml, hown, htsL, hK, hN, hSX, hX, hbl, hbA, hA⟩
  have hS : va_S (fun q : Nat => s.heap.size ≤ q) s.heap s.heap [] := va_S.rf
  have hP : va_P D vwCl [] s.heap := fun k q h => (by cases h)
  have hD : va_D (fun q : Nat => s.heap.size ≤ q) [] := ⟨fun i j p q h => (by cases h), fun k q h => (by cases h)⟩
  have hl := lv_entry ([.ref b]) (n := 4) (Nat.le_of_ble_eq_true rfl)
  rw [lg_entry_eq]
  generalize (lg_sl ([.ref b]) ++ List.replicate (4 - (lg_sl ([.ref b])).length) Slot.unset).toArray = ls at hl ⊢
  have hl : lv_has ls 4 [(0, .ref b)] := hl
  have hinX10 : ∀ w ∈ wsX100, w ∈ wsL_law := fun _ h => List.mem_append_left _ (List.mem_append_left _ (List.mem_append_left _ (List.mem_append_left _ (List.mem_append_left _ (List.mem_append_left _ (List.mem_append_left _ (List.mem_append_left _ (List.mem_append_left _ (List.mem_append_left _ (List.mem_append_left _ (List.mem_append_left _ (List.mem_append_right _ h))))))))))))
  have hinX11 : ∀ w ∈ wsX110, w ∈ wsL_law := fun _ h => List.mem_append_left _ (List.mem_append_left _ (List.mem_append_left _ (List.mem_append_left _ (List.mem_append_left _ (List.mem_append_left _ (List.mem_append_left _ (List.mem_append_left _ (List.mem_append_left _ (List.mem_append_left _ (List.mem_append_left _ (List.mem_append_right _ h)))))))))))
  refine va_new (ci := 10) (fs := [.null, .null, .null, .null, .null, .null, .null, .null, .null, .null, .null, .null, .null, .null, .null, .int 0, .int 0, .long 0, .long 0]) (C := RX10) (T := TX10) (N := 19) hx hb htsL hinX10 tyX10 tyX10_ok hown (htsL (.classLink RL 7 RX10) (List.mem_of_getElem? (i := 0) rfl)) (htsL (.instantiable RX10 19) (List.mem_of_getElem? (i := 1) rfl)) (htsL (.initialized RX10) (List.mem_of_getElem? (i := 2) rfl)) hK hP hD hS hA rfl (fun j hj => by rcases (show j = 0 ∨ j = 1 ∨ j = 2 ∨ j = 3 ∨ j = 4 ∨ j = 5 ∨ j = 6 ∨ j = 7 ∨ j = 8 ∨ j = 9 ∨ j = 10 ∨ j = 11 ∨ j = 12 ∨ j = 13 ∨ j = 14 ∨ j = 15 ∨ j = 16 ∨ j = 17 ∨ j = 18 by omega) with rfl | rfl | rfl | rfl | rfl | rfl | rfl | rfl | rfl | rfl | rfl | rfl | rfl | rfl | rfl | rfl | rfl | rfl | rfl <;> rfl) (Nat.le_of_ble_eq_true rfl) (Nat.le_of_ble_eq_true rfl) dL_law_0 (fun hk H hP hD hS => ?_)
  have hP : va_P D vwCl [(hk, .inr (10, [.null, .null, .null, .null, .null, .null, .null, .null, .null, .null, .null, .null, .null, .null, .null, .int 0, .int 0, .long 0, .long 0]))] H := hP
  have hD : va_D (fun q : Nat => s.heap.size ≤ q) [(hk, .inr (10, [.null, .null, .null, .null, .null, .null, .null, .null, .null, .null, .null, .null, .null, .null, .null, .int 0, .int 0, .long 0, .long 0]))] := hD
  refine lv_dup hx hb dL_law_3 rfl ?_
  refine ca_n (wr := []) (rn_I (As := []) (rest := [.ref hk]) ⟨hx, hb, hml, hown, htsL⟩ (kX10_init S l D cy hk r9 a9 r8 a8 H.size) (cwI 0 htsL gL_law_X10_init rfl rfl rfl (htsL (.initialized RX10) (List.mem_of_getElem? (i := 2) rfl)) (htsL (.methodLink RL 9 yX10_init) (List.mem_of_getElem? (i := 7) rfl)) (htsL (.instanceMethod yX10_init) (List.mem_of_getElem? (i := 8) rfl)) rfl (by decide +kernel) ⟨Nat.le_of_ble_eq_true rfl, Nat.le_of_ble_eq_true rfl⟩) hK hN hSX hP hD hS hA [0] rfl rfl rfl hl.1 rfl (Nat.le_of_ble_eq_true rfl) dL_law_4 ⟨Nat.le_of_ble_eq_true rfl, Nat.le_of_ble_eq_true rfl⟩) hP hD hS hA [0] [] rfl rfl rfl (by decide) (fun u H locs hP hD hS => ?_)
  have hP : va_P D vwCl (flat (LW0 cy hk u (sgz r9 r8))) H := hP
  have hD : va_D (fun q : Nat => s.heap.size ≤ q) (flat (LW0 cy hk u (sgz r9 r8))) := hD
  have eW : ∀ (hm : Nat) (v : Nat → Nat → Nat), flat (LW0 cy hk u (sgz r9 r8)) ++ flat [WX11 cy hm (v 0) r11] = flat (LW cy hk u hm v (sgz r9 r8) r11) := fun hm v => (flat_app _ _).symm
  generalize flat (LW0 cy hk u (sgz r9 r8)) = w0 at hP hD eW
  refine lv_astore_n (lv' := [(1, .ref hk), (0, .ref b)]) hx hb dL_law_7 rfl hl (by decide) rfl (fun ls hl => ?_)
  refine va_new (ci := 11) (fs := [.null, .null, .int 0, .long 0, .long 0, .null, .null, .null, .null, .null, .int 0, .int 0, .int 0, .int 0, .int 0, .int 0, .int 0, .int 0, .int 0, .int 0, .int 0, .null, .int 0, .int 0, .int 0, .int 0, .int 0, .long 0, .long 0, .null, .null, .int 0, .int 0, .null, .null, .null, .int 0, .int 0]) (C := RX11) (T := TX11) (N := 38) hx hb htsL hinX11 tyX11 tyX11_ok hown (htsL (.classLink RL 10 RX11) (List.mem_of_getElem? (i := 3) rfl)) (htsL (.instantiable RX11 38) (List.mem_of_getElem? (i := 4) rfl)) (htsL (.initialized RX11) (List.mem_of_getElem? (i := 5) rfl)) hK hP hD hS hA rfl (fun j hj => by rcases (show j = 0 ∨ j = 1 ∨ j = 2 ∨ j = 3 ∨ j = 4 ∨ j = 5 ∨ j = 6 ∨ j = 7 ∨ j = 8 ∨ j = 9 ∨ j = 10 ∨ j = 11 ∨ j = 12 ∨ j = 13 ∨ j = 14 ∨ j = 15 ∨ j = 16 ∨ j = 17 ∨ j = 18 ∨ j = 19 ∨ j = 20 ∨ j = 21 ∨ j = 22 ∨ j = 23 ∨ j = 24 ∨ j = 25 ∨ j = 26 ∨ j = 27 ∨ j = 28 ∨ j = 29 ∨ j = 30 ∨ j = 31 ∨ j = 32 ∨ j = 33 ∨ j = 34 ∨ j = 35 ∨ j = 36 ∨ j = 37 by omega) with rfl | rfl | rfl | rfl | rfl | rfl | rfl | rfl | rfl | rfl | rfl | rfl | rfl | rfl | rfl | rfl | rfl | rfl | rfl | rfl | rfl | rfl | rfl | rfl | rfl | rfl | rfl | rfl | rfl | rfl | rfl | rfl | rfl | rfl | rfl | rfl | rfl | rfl <;> rfl) (Nat.le_of_ble_eq_true rfl) (Nat.le_of_ble_eq_true rfl) dL_law_8 (fun hm H hP hD hS => ?_)
  have hP : va_P D vwCl (w0 ++ [(hm, .inr (11, [.null, .null, .int 0, .long 0, .long 0, .null, .null, .null, .null, .null, .int 0, .int 0, .int 0, .int 0, .int 0, .int 0, .int 0, .int 0, .int 0, .int 0, .int 0, .null, .int 0, .int 0, .int 0, .int 0, .int 0, .long 0, .long 0, .null, .null, .int 0, .int 0, .null, .null, .null, .int 0, .int 0]))]) H := hP
  have hD : va_D (fun q : Nat => s.heap.size ≤ q) (w0 ++ [(hm, .inr (11, [.null, .null, .int 0, .long 0, .long 0, .null, .null, .null, .null, .null, .int 0, .int 0, .int 0, .int 0, .int 0, .int 0, .int 0, .int 0, .int 0, .int 0, .int 0, .null, .int 0, .int 0, .int 0, .int 0, .int 0, .long 0, .long 0, .null, .null, .int 0, .int 0, .null, .null, .null, .int 0, .int 0]))]) := hD
  refine lv_dup hx hb dL_law_11 rfl ?_
  refine ca_n (wr := w0) (rn_I (w := w0 ++ [(hm, .inr (11, [.null, .null, .int 0, .long 0, .long 0, .null, .null, .null, .null, .null, .int 0, .int 0, .int 0, .int 0, .int 0, .int 0, .int 0, .int 0, .int 0, .int 0, .int 0, .null, .int 0, .int 0, .int 0, .int 0, .int 0, .long 0, .long 0, .null, .null, .int 0, .int 0, .null, .null, .null, .int 0, .int 0]))]) (wc := [(hm, .inr (11, [.null, .null, .int 0, .long 0, .long 0, .null, .null, .null, .null, .null, .int 0, .int 0, .int 0, .int 0, .int 0, .int 0, .int 0, .int 0, .int 0, .int 0, .int 0, .null, .int 0, .int 0, .int 0, .int 0, .int 0, .long 0, .long 0, .null, .null, .int 0, .int 0, .null, .null, .null, .int 0, .int 0]))]) (As := []) (rest := [.ref hm]) ⟨hx, hb, hml, hown, htsL⟩ (kX11_init S l D cy hm r11 a11 H.size) (cwI 0 htsL gL_law_X11_init rfl rfl rfl (htsL (.initialized RX11) (List.mem_of_getElem? (i := 5) rfl)) (htsL (.methodLink RL 12 yX11_init) (List.mem_of_getElem? (i := 217) rfl)) (htsL (.instanceMethod yX11_init) (List.mem_of_getElem? (i := 218) rfl)) rfl (by decide +kernel) ⟨Nat.le_of_ble_eq_true rfl, Nat.le_of_ble_eq_true rfl⟩) hK hN hSX hP hD hS hA [List.length w0] (at_end _ _) rfl rfl hl.1 rfl (Nat.le_of_ble_eq_true rfl) dL_law_12 ⟨Nat.le_of_ble_eq_true rfl, Nat.le_of_ble_eq_true rfl⟩) hP hD hS hA [List.length w0] (List.range' 0 (List.length w0)) (at_end _ _) (rg_at _ _) (nd_rg _ _) (fun i hi h => by have h1 := (List.mem_range'_1.mp hi).2; rw [List.mem_singleton] at h; omega) (fun v H locs hP hD hS => ?_)
  have hP : va_P D vwCl (flat (LW cy hk u hm v (sgz r9 r8) r11)) H := by rw [← eW]; exact hP
  have hD : va_D (fun q : Nat => s.heap.size ≤ q) (flat (LW cy hk u hm v (sgz r9 r8) r11)) := by rw [← eW]; exact hD
  refine lv_astore_n (lv' := [(2, .ref hm), (1, .ref hk), (0, .ref b)]) hx hb dL_law_15 rfl hl (by decide) rfl (fun ls hl => ?_)
  refine lv_iconst (v := 0) hx hb dL_law_16 (by decide) ?_
  refine lv_istore_n (lv' := [(3, .int 0), (2, .ref hm), (1, .ref hk), (0, .ref b)]) hx hb dL_law_17 rfl hl (by decide) rfl (fun ls hl => ?_)
  exact law_loop (Rel := Rel) ⟨b_status, b_top, b_bottom, b_tray, b_write, b_read, b_pour, b_feed, b_bench, b_season, b_fault, b_told, b_farmer, b_dislikes, b_weather, b_should, b_twinges, b_twinge, b_feel, b_lie, b_cure, b_brandy, b_day, b_tells, b_wrongs, b_says, b_tips, b_right, b_trust, b_kept, b_learn, b_weigh, b_truest, b_odds, b_hay, b_wedding, b_seats, b_seatAt, b_fewest, b_lag, b_fits, b_stairs, b_spell, b_believers, b_alike, b_toldBy, b_flips, b_span, b_rival, b_quiet, b_useful, b_mood, b_foe, b_silent, b_sure, b_bestLaw, b_keptBy, b_streak, b_clashes, b_fever, b_lies, b_nextWrong, b_warned, b_agrees, b_live, b_lived, b_mean, b_mark, b_back⟩ hC hL hr hlocks (L + 1) 0 (sgz r9 r8) r11 H locs ls (Nat.zero_le L) (by omega) (hRel _ rfl rfl rfl rfl rfl rfl rfl) (lv_sub hl [3, 2, 1, 0] rfl) hP hD hS
