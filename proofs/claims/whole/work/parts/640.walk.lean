theorem gd_X11_does : wsX11_does.all goodWord = true := by decide +kernel
set_option maxRecDepth 20000 in
theorem ggX11_does_X11_draw : GoodIn wsX11_does wsX11_draw := goodIn_by gd_X11_does (List.forall_mem_cons.mpr ⟨List.mem_cons_of_mem _ (List.mem_append_left _ (List.mem_append_left _ (List.mem_of_getElem? (i := 5) rfl))), List.forall_mem_append.mpr ⟨List.forall_mem_cons.mpr ⟨List.mem_cons_of_mem _ (List.mem_append_left _ (List.mem_append_left _ (List.mem_of_getElem? (i := 6) rfl))), List.forall_mem_cons.mpr ⟨List.mem_cons_of_mem _ (List.mem_append_left _ (List.mem_append_left _ (List.mem_of_getElem? (i := 7) rfl))), nowords_in⟩⟩, (fun _ h => List.mem_cons_of_mem _ (List.mem_append_right _ (h)))⟩⟩)
set_option maxRecDepth 20000 in
theorem gX11_does_X11_draw : GoodIn wsX11_does (wsV RX11 277 RX11 yX11_draw wsX11_draw) := goodIn_app (goodIn_by gd_X11_does (List.forall_mem_cons.mpr ⟨List.mem_cons_of_mem _ (List.mem_append_left _ (List.mem_append_left _ (List.mem_of_getElem? (i := 1) rfl))), List.forall_mem_cons.mpr ⟨List.mem_cons_of_mem _ (List.mem_append_left _ (List.mem_append_left _ (List.mem_of_getElem? (i := 2) rfl))), List.forall_mem_cons.mpr ⟨List.mem_cons_of_mem _ (List.mem_append_left _ (List.mem_append_left _ (List.mem_of_getElem? (i := 3) rfl))), List.forall_mem_cons.mpr ⟨List.mem_cons_of_mem _ (List.mem_append_left _ (List.mem_append_left _ (List.mem_of_getElem? (i := 4) rfl))), nowords_in⟩⟩⟩⟩)) ggX11_does_X11_draw
set_option maxRecDepth 20000 in
theorem ggX11_does_X11_dayComes : GoodIn wsX11_does wsX11_dayComes := goodIn_by gd_X11_does (List.forall_mem_cons.mpr ⟨List.mem_cons_of_mem _ (List.mem_append_left _ (List.mem_append_left _ (List.mem_of_getElem? (i := 11) rfl))), List.forall_mem_append.mpr ⟨List.forall_mem_cons.mpr ⟨List.mem_cons_of_mem _ (List.mem_append_left _ (List.mem_append_left _ (List.mem_of_getElem? (i := 12) rfl))), List.forall_mem_cons.mpr ⟨List.mem_cons_of_mem _ (List.mem_append_left _ (List.mem_append_left _ (List.mem_of_getElem? (i := 13) rfl))), List.forall_mem_cons.mpr ⟨List.mem_cons_of_mem _ (List.mem_append_left _ (List.mem_append_left _ (List.mem_of_getElem? (i := 14) rfl))), List.forall_mem_cons.mpr ⟨List.mem_cons_of_mem _ (List.mem_append_left _ (List.mem_append_left _ (List.mem_of_getElem? (i := 15) rfl))), List.forall_mem_cons.mpr ⟨List.mem_cons_of_mem _ (List.mem_append_left _ (List.mem_append_left _ (List.mem_of_getElem? (i := 4) rfl))), List.forall_mem_cons.mpr ⟨List.mem_cons_of_mem _ (List.mem_append_left _ (List.mem_append_left _ (List.mem_of_getElem? (i := 16) rfl))), List.forall_mem_cons.mpr ⟨List.mem_cons_of_mem _ (List.mem_append_left _ (List.mem_append_left _ (List.mem_of_getElem? (i := 0) rfl))), List.forall_mem_cons.mpr ⟨List.mem_cons_of_mem _ (List.mem_append_left _ (List.mem_append_left _ (List.mem_of_getElem? (i := 17) rfl))), List.forall_mem_cons.mpr ⟨List.mem_cons_of_mem _ (List.mem_append_left _ (List.mem_append_left _ (List.mem_of_getElem? (i := 18) rfl))), List.forall_mem_cons.mpr ⟨List.mem_cons_of_mem _ (List.mem_append_left _ (List.mem_append_left _ (List.mem_of_getElem? (i := 19) rfl))), nowords_in⟩⟩⟩⟩⟩⟩⟩⟩⟩⟩, (fun _ h => List.mem_cons_of_mem _ (List.mem_append_right _ (h)))⟩⟩)
set_option maxRecDepth 20000 in
theorem gX11_does_X11_dayComes : GoodIn wsX11_does (wsV RX11 395 RX11 yX11_dayComes wsX11_dayComes) := goodIn_app (goodIn_by gd_X11_does (List.forall_mem_cons.mpr ⟨List.mem_cons_of_mem _ (List.mem_append_left _ (List.mem_append_left _ (List.mem_of_getElem? (i := 8) rfl))), List.forall_mem_cons.mpr ⟨List.mem_cons_of_mem _ (List.mem_append_left _ (List.mem_append_left _ (List.mem_of_getElem? (i := 9) rfl))), List.forall_mem_cons.mpr ⟨List.mem_cons_of_mem _ (List.mem_append_left _ (List.mem_append_left _ (List.mem_of_getElem? (i := 10) rfl))), List.forall_mem_cons.mpr ⟨List.mem_cons_of_mem _ (List.mem_append_left _ (List.mem_append_left _ (List.mem_of_getElem? (i := 4) rfl))), nowords_in⟩⟩⟩⟩)) ggX11_does_X11_dayComes
set_option maxRecDepth 20000 in
theorem ggX11_does_X11_feels : GoodIn wsX11_does wsX11_feels := goodIn_by gd_X11_does (List.forall_mem_cons.mpr ⟨List.mem_cons_of_mem _ (List.mem_append_left _ (List.mem_append_left _ (List.mem_of_getElem? (i := 23) rfl))), List.forall_mem_append.mpr ⟨List.forall_mem_append.mpr ⟨List.forall_mem_cons.mpr ⟨List.mem_cons_of_mem _ (List.mem_append_left _ (List.mem_append_left _ (List.mem_of_getElem? (i := 0) rfl))), List.forall_mem_cons.mpr ⟨List.mem_cons_of_mem _ (List.mem_append_left _ (List.mem_append_left _ (List.mem_of_getElem? (i := 1) rfl))), List.forall_mem_cons.mpr ⟨List.mem_cons_of_mem _ (List.mem_append_left _ (List.mem_append_left _ (List.mem_of_getElem? (i := 2) rfl))), List.forall_mem_cons.mpr ⟨List.mem_cons_of_mem _ (List.mem_append_left _ (List.mem_append_left _ (List.mem_of_getElem? (i := 3) rfl))), List.forall_mem_cons.mpr ⟨List.mem_cons_of_mem _ (List.mem_append_left _ (List.mem_append_left _ (List.mem_of_getElem? (i := 4) rfl))), List.forall_mem_cons.mpr ⟨List.mem_cons_of_mem _ (List.mem_append_left _ (List.mem_append_left _ (List.mem_of_getElem? (i := 5) rfl))), List.forall_mem_cons.mpr ⟨List.mem_cons_of_mem _ (List.mem_append_left _ (List.mem_append_left _ (List.mem_of_getElem? (i := 6) rfl))), List.forall_mem_cons.mpr ⟨List.mem_cons_of_mem _ (List.mem_append_left _ (List.mem_append_left _ (List.mem_of_getElem? (i := 7) rfl))), List.forall_mem_cons.mpr ⟨List.mem_cons_of_mem _ (List.mem_append_left _ (List.mem_append_right _ (List.mem_append_left _ (List.mem_of_getElem? (i := 0) rfl)))), List.forall_mem_cons.mpr ⟨List.mem_cons_of_mem _ (List.mem_append_left _ (List.mem_append_right _ (List.mem_append_left _ (List.mem_of_getElem? (i := 1) rfl)))), List.forall_mem_cons.mpr ⟨List.mem_cons_of_mem _ (List.mem_append_left _ (List.mem_append_right _ (List.mem_append_left _ (List.mem_of_getElem? (i := 2) rfl)))), List.forall_mem_cons.mpr ⟨List.mem_cons_of_mem _ (List.mem_append_left _ (List.mem_append_right _ (List.mem_append_left _ (List.mem_of_getElem? (i := 3) rfl)))), List.forall_mem_cons.mpr ⟨List.mem_cons_of_mem _ (List.mem_append_left _ (List.mem_append_right _ (List.mem_append_left _ (List.mem_of_getElem? (i := 4) rfl)))), List.forall_mem_cons.mpr ⟨List.mem_cons_of_mem _ (List.mem_append_left _ (List.mem_append_right _ (List.mem_append_left _ (List.mem_of_getElem? (i := 5) rfl)))), List.forall_mem_cons.mpr ⟨List.mem_cons_of_mem _ (List.mem_append_left _ (List.mem_append_right _ (List.mem_append_left _ (List.mem_of_getElem? (i := 6) rfl)))), List.forall_mem_cons.mpr ⟨List.mem_cons_of_mem _ (List.mem_append_left _ (List.mem_append_right _ (List.mem_append_left _ (List.mem_of_getElem? (i := 7) rfl)))), List.forall_mem_cons.mpr ⟨List.mem_cons_of_mem _ (List.mem_append_left _ (List.mem_append_right _ (List.mem_append_left _ (List.mem_of_getElem? (i := 8) rfl)))), List.forall_mem_cons.mpr ⟨List.mem_cons_of_mem _ (List.mem_append_left _ (List.mem_append_right _ (List.mem_append_left _ (List.mem_of_getElem? (i := 9) rfl)))), List.forall_mem_cons.mpr ⟨List.mem_cons_of_mem _ (List.mem_append_left _ (List.mem_append_right _ (List.mem_append_left _ (List.mem_of_getElem? (i := 10) rfl)))), List.forall_mem_cons.mpr ⟨List.mem_cons_of_mem _ (List.mem_append_left _ (List.mem_append_right _ (List.mem_append_left _ (List.mem_of_getElem? (i := 11) rfl)))), List.forall_mem_cons.mpr ⟨List.mem_cons_of_mem _ (List.mem_append_left _ (List.mem_append_right _ (List.mem_append_left _ (List.mem_of_getElem? (i := 12) rfl)))), List.forall_mem_cons.mpr ⟨List.mem_cons_of_mem _ (List.mem_append_left _ (List.mem_append_right _ (List.mem_append_left _ (List.mem_of_getElem? (i := 13) rfl)))), List.forall_mem_cons.mpr ⟨List.mem_cons_of_mem _ (List.mem_append_left _ (List.mem_append_right _ (List.mem_append_left _ (List.mem_of_getElem? (i := 14) rfl)))), List.forall_mem_cons.mpr ⟨List.mem_cons_of_mem _ (List.mem_append_left _ (List.mem_append_right _ (List.mem_append_left _ (List.mem_of_getElem? (i := 15) rfl)))), nowords_in⟩⟩⟩⟩⟩⟩⟩⟩⟩⟩⟩⟩⟩⟩⟩⟩⟩⟩⟩⟩⟩⟩⟩⟩, List.forall_mem_cons.mpr ⟨List.mem_cons_of_mem _ (List.mem_append_left _ (List.mem_append_right _ (List.mem_append_left _ (List.mem_of_getElem? (i := 16) rfl)))), List.forall_mem_cons.mpr ⟨List.mem_cons_of_mem _ (List.mem_append_left _ (List.mem_append_right _ (List.mem_append_left _ (List.mem_of_getElem? (i := 17) rfl)))), List.forall_mem_cons.mpr ⟨List.mem_cons_of_mem _ (List.mem_append_left _ (List.mem_append_right _ (List.mem_append_left _ (List.mem_of_getElem? (i := 18) rfl)))), List.forall_mem_cons.mpr ⟨List.mem_cons_of_mem _ (List.mem_append_left _ (List.mem_append_right _ (List.mem_append_left _ (List.mem_of_getElem? (i := 19) rfl)))), List.forall_mem_cons.mpr ⟨List.mem_cons_of_mem _ (List.mem_append_left _ (List.mem_append_right _ (List.mem_append_left _ (List.mem_of_getElem? (i := 20) rfl)))), List.forall_mem_cons.mpr ⟨List.mem_cons_of_mem _ (List.mem_append_left _ (List.mem_append_right _ (List.mem_append_left _ (List.mem_of_getElem? (i := 21) rfl)))), List.forall_mem_cons.mpr ⟨List.mem_cons_of_mem _ (List.mem_append_left _ (List.mem_append_right _ (List.mem_append_left _ (List.mem_of_getElem? (i := 22) rfl)))), List.forall_mem_cons.mpr ⟨List.mem_cons_of_mem _ (List.mem_append_left _ (List.mem_append_left _ (List.mem_of_getElem? (i := 17) rfl))), List.forall_mem_cons.mpr ⟨List.mem_cons_of_mem _ (List.mem_append_left _ (List.mem_append_left _ (List.mem_of_getElem? (i := 18) rfl))), List.forall_mem_cons.mpr ⟨List.mem_cons_of_mem _ (List.mem_append_left _ (List.mem_append_left _ (List.mem_of_getElem? (i := 19) rfl))), nowords_in⟩⟩⟩⟩⟩⟩⟩⟩⟩⟩⟩, (fun _ h => List.mem_cons_of_mem _ (List.mem_append_right _ (h)))⟩⟩)
set_option maxRecDepth 20000 in
theorem gX11_does_X11_feels : GoodIn wsX11_does (wsV RX11 286 RX11 yX11_feels wsX11_feels) := goodIn_app (goodIn_by gd_X11_does (List.forall_mem_cons.mpr ⟨List.mem_cons_of_mem _ (List.mem_append_left _ (List.mem_append_left _ (List.mem_of_getElem? (i := 20) rfl))), List.forall_mem_cons.mpr ⟨List.mem_cons_of_mem _ (List.mem_append_left _ (List.mem_append_left _ (List.mem_of_getElem? (i := 21) rfl))), List.forall_mem_cons.mpr ⟨List.mem_cons_of_mem _ (List.mem_append_left _ (List.mem_append_left _ (List.mem_of_getElem? (i := 22) rfl))), List.forall_mem_cons.mpr ⟨List.mem_cons_of_mem _ (List.mem_append_left _ (List.mem_append_left _ (List.mem_of_getElem? (i := 4) rfl))), nowords_in⟩⟩⟩⟩)) ggX11_does_X11_feels
set_option maxRecDepth 20000 in
theorem ggX11_does_X11_isDay : GoodIn wsX11_does wsX11_isDay := goodIn_by gd_X11_does (List.forall_mem_cons.mpr ⟨List.mem_cons_of_mem _ (List.mem_append_left _ (List.mem_append_right _ (List.mem_append_left _ (List.mem_of_getElem? (i := 14) rfl)))), List.forall_mem_append.mpr ⟨List.forall_mem_cons.mpr ⟨List.mem_cons_of_mem _ (List.mem_append_left _ (List.mem_append_left _ (List.mem_of_getElem? (i := 0) rfl))), nowords_in⟩, (fun _ h => List.mem_cons_of_mem _ (List.mem_append_right _ (h)))⟩⟩)
set_option maxRecDepth 20000 in
theorem gX11_does_X11_isDay : GoodIn wsX11_does (wsV RX11 255 RX11 yX11_isDay wsX11_isDay) := goodIn_app (goodIn_by gd_X11_does (List.forall_mem_cons.mpr ⟨List.mem_cons_of_mem _ (List.mem_append_left _ (List.mem_append_right _ (List.mem_append_left _ (List.mem_of_getElem? (i := 11) rfl)))), List.forall_mem_cons.mpr ⟨List.mem_cons_of_mem _ (List.mem_append_left _ (List.mem_append_right _ (List.mem_append_left _ (List.mem_of_getElem? (i := 12) rfl)))), List.forall_mem_cons.mpr ⟨List.mem_cons_of_mem _ (List.mem_append_left _ (List.mem_append_right _ (List.mem_append_left _ (List.mem_of_getElem? (i := 13) rfl)))), List.forall_mem_cons.mpr ⟨List.mem_cons_of_mem _ (List.mem_append_left _ (List.mem_append_left _ (List.mem_of_getElem? (i := 4) rfl))), nowords_in⟩⟩⟩⟩)) ggX11_does_X11_isDay
set_option maxRecDepth 20000 in
theorem ggX11_does_X11_turnsRound : GoodIn wsX11_does wsX11_turnsRound := goodIn_by gd_X11_does (List.forall_mem_cons.mpr ⟨List.mem_cons_of_mem _ (List.mem_append_left _ (List.mem_append_right _ (List.mem_append_right _ (List.mem_of_getElem? (i := 2) rfl)))), List.forall_mem_append.mpr ⟨List.forall_mem_cons.mpr ⟨List.mem_cons_of_mem _ (List.mem_append_left _ (List.mem_append_left _ (List.mem_of_getElem? (i := 0) rfl))), List.forall_mem_cons.mpr ⟨List.mem_cons_of_mem _ (List.mem_append_left _ (List.mem_append_left _ (List.mem_of_getElem? (i := 17) rfl))), List.forall_mem_cons.mpr ⟨List.mem_cons_of_mem _ (List.mem_append_left _ (List.mem_append_left _ (List.mem_of_getElem? (i := 18) rfl))), List.forall_mem_cons.mpr ⟨List.mem_cons_of_mem _ (List.mem_append_left _ (List.mem_append_left _ (List.mem_of_getElem? (i := 4) rfl))), List.forall_mem_cons.mpr ⟨List.mem_cons_of_mem _ (List.mem_append_left _ (List.mem_append_left _ (List.mem_of_getElem? (i := 19) rfl))), nowords_in⟩⟩⟩⟩⟩, (fun _ h => List.mem_cons_of_mem _ (List.mem_append_right _ (h)))⟩⟩)
set_option maxRecDepth 20000 in
theorem gX11_does_X11_turnsRound : GoodIn wsX11_does (wsV RX11 289 RX11 yX11_turnsRound wsX11_turnsRound) := goodIn_app (goodIn_by gd_X11_does (List.forall_mem_cons.mpr ⟨List.mem_cons_of_mem _ (List.mem_append_left _ (List.mem_append_right _ (List.mem_append_left _ (List.mem_of_getElem? (i := 23) rfl)))), List.forall_mem_cons.mpr ⟨List.mem_cons_of_mem _ (List.mem_append_left _ (List.mem_append_right _ (List.mem_append_right _ (List.mem_of_getElem? (i := 0) rfl)))), List.forall_mem_cons.mpr ⟨List.mem_cons_of_mem _ (List.mem_append_left _ (List.mem_append_right _ (List.mem_append_right _ (List.mem_of_getElem? (i := 1) rfl)))), List.forall_mem_cons.mpr ⟨List.mem_cons_of_mem _ (List.mem_append_left _ (List.mem_append_left _ (List.mem_of_getElem? (i := 4) rfl))), nowords_in⟩⟩⟩⟩)) ggX11_does_X11_turnsRound
set_option maxRecDepth 20000 in
theorem ggX11_does_X11_farmerRow : GoodIn wsX11_does wsX11_farmerRow := goodIn_by gd_X11_does (List.forall_mem_cons.mpr ⟨List.mem_cons_of_mem _ (List.mem_append_left _ (List.mem_append_right _ (List.mem_append_left _ (List.mem_of_getElem? (i := 10) rfl)))), nowords_in⟩)
set_option maxRecDepth 20000 in
theorem gX11_does_X11_farmerRow : GoodIn wsX11_does (va_wsS RX11 177 yX11_farmerRow wsX11_farmerRow) := goodIn_app (goodIn_by gd_X11_does (List.forall_mem_cons.mpr ⟨List.mem_cons_of_mem _ (List.mem_append_left _ (List.mem_append_right _ (List.mem_append_left _ (List.mem_of_getElem? (i := 8) rfl)))), List.forall_mem_cons.mpr ⟨List.mem_cons_of_mem _ (List.mem_append_left _ (List.mem_append_right _ (List.mem_append_left _ (List.mem_of_getElem? (i := 9) rfl)))), List.forall_mem_cons.mpr ⟨List.mem_cons_of_mem _ (List.mem_append_left _ (List.mem_append_left _ (List.mem_of_getElem? (i := 4) rfl))), nowords_in⟩⟩⟩)) ggX11_does_X11_farmerRow
set_option maxRecDepth 20000 in
theorem ggX11_does_X11_learns : GoodIn wsX11_does wsX11_learns := goodIn_by gd_X11_does (List.forall_mem_cons.mpr ⟨List.mem_cons_of_mem _ (List.mem_append_left _ (List.mem_append_right _ (List.mem_append_right _ (List.mem_of_getElem? (i := 6) rfl)))), List.forall_mem_append.mpr ⟨List.forall_mem_append.mpr ⟨List.forall_mem_cons.mpr ⟨List.mem_cons_of_mem _ (List.mem_append_left _ (List.mem_append_left _ (List.mem_of_getElem? (i := 0) rfl))), List.forall_mem_cons.mpr ⟨List.mem_cons_of_mem _ (List.mem_append_left _ (List.mem_append_right _ (List.mem_append_right _ (List.mem_of_getElem? (i := 7) rfl)))), List.forall_mem_cons.mpr ⟨List.mem_cons_of_mem _ (List.mem_append_left _ (List.mem_append_right _ (List.mem_append_right _ (List.mem_of_getElem? (i := 8) rfl)))), List.forall_mem_cons.mpr ⟨List.mem_cons_of_mem _ (List.mem_append_left _ (List.mem_append_right _ (List.mem_append_right _ (List.mem_of_getElem? (i := 9) rfl)))), List.forall_mem_cons.mpr ⟨List.mem_cons_of_mem _ (List.mem_append_left _ (List.mem_append_right _ (List.mem_append_right _ (List.mem_of_getElem? (i := 10) rfl)))), List.forall_mem_cons.mpr ⟨List.mem_cons_of_mem _ (List.mem_append_left _ (List.mem_append_right _ (List.mem_append_right _ (List.mem_of_getElem? (i := 11) rfl)))), List.forall_mem_cons.mpr ⟨List.mem_cons_of_mem _ (List.mem_append_left _ (List.mem_append_right _ (List.mem_append_right _ (List.mem_of_getElem? (i := 12) rfl)))), List.forall_mem_cons.mpr ⟨List.mem_cons_of_mem _ (List.mem_append_left _ (List.mem_append_right _ (List.mem_append_right _ (List.mem_of_getElem? (i := 13) rfl)))), List.forall_mem_cons.mpr ⟨List.mem_cons_of_mem _ (List.mem_append_left _ (List.mem_append_left _ (List.mem_of_getElem? (i := 4) rfl))), List.forall_mem_cons.mpr ⟨List.mem_cons_of_mem _ (List.mem_append_left _ (List.mem_append_right _ (List.mem_append_right _ (List.mem_of_getElem? (i := 14) rfl)))), List.forall_mem_cons.mpr ⟨List.mem_cons_of_mem _ (List.mem_append_left _ (List.mem_append_right _ (List.mem_append_right _ (List.mem_of_getElem? (i := 15) rfl)))), List.forall_mem_cons.mpr ⟨List.mem_cons_of_mem _ (List.mem_append_left _ (List.mem_append_right _ (List.mem_append_right _ (List.mem_of_getElem? (i := 16) rfl)))), List.forall_mem_cons.mpr ⟨List.mem_cons_of_mem _ (List.mem_append_left _ (List.mem_append_right _ (List.mem_append_left _ (List.mem_of_getElem? (i := 4) rfl)))), List.forall_mem_cons.mpr ⟨List.mem_cons_of_mem _ (List.mem_append_left _ (List.mem_append_right _ (List.mem_append_left _ (List.mem_of_getElem? (i := 5) rfl)))), List.forall_mem_cons.mpr ⟨List.mem_cons_of_mem _ (List.mem_append_left _ (List.mem_append_right _ (List.mem_append_left _ (List.mem_of_getElem? (i := 6) rfl)))), List.forall_mem_cons.mpr ⟨List.mem_cons_of_mem _ (List.mem_append_left _ (List.mem_append_right _ (List.mem_append_left _ (List.mem_of_getElem? (i := 7) rfl)))), List.forall_mem_cons.mpr ⟨List.mem_cons_of_mem _ (List.mem_append_left _ (List.mem_append_right _ (List.mem_append_left _ (List.mem_of_getElem? (i := 8) rfl)))), List.forall_mem_cons.mpr ⟨List.mem_cons_of_mem _ (List.mem_append_left _ (List.mem_append_right _ (List.mem_append_left _ (List.mem_of_getElem? (i := 9) rfl)))), List.forall_mem_cons.mpr ⟨List.mem_cons_of_mem _ (List.mem_append_left _ (List.mem_append_right _ (List.mem_append_left _ (List.mem_of_getElem? (i := 10) rfl)))), List.forall_mem_cons.mpr ⟨List.mem_cons_of_mem _ (List.mem_append_left _ (List.mem_append_right _ (List.mem_append_left _ (List.mem_of_getElem? (i := 11) rfl)))), List.forall_mem_cons.mpr ⟨List.mem_cons_of_mem _ (List.mem_append_left _ (List.mem_append_right _ (List.mem_append_left _ (List.mem_of_getElem? (i := 12) rfl)))), List.forall_mem_cons.mpr ⟨List.mem_cons_of_mem _ (List.mem_append_left _ (List.mem_append_right _ (List.mem_append_left _ (List.mem_of_getElem? (i := 13) rfl)))), List.forall_mem_cons.mpr ⟨List.mem_cons_of_mem _ (List.mem_append_left _ (List.mem_append_right _ (List.mem_append_left _ (List.mem_of_getElem? (i := 14) rfl)))), List.forall_mem_cons.mpr ⟨List.mem_cons_of_mem _ (List.mem_append_left _ (List.mem_append_right _ (List.mem_append_left _ (List.mem_of_getElem? (i := 19) rfl)))), nowords_in⟩⟩⟩⟩⟩⟩⟩⟩⟩⟩⟩⟩⟩⟩⟩⟩⟩⟩⟩⟩⟩⟩⟩⟩, List.forall_mem_cons.mpr ⟨List.mem_cons_of_mem _ (List.mem_append_left _ (List.mem_append_right _ (List.mem_append_left _ (List.mem_of_getElem? (i := 20) rfl)))), List.forall_mem_cons.mpr ⟨List.mem_cons_of_mem _ (List.mem_append_left _ (List.mem_append_right _ (List.mem_append_left _ (List.mem_of_getElem? (i := 21) rfl)))), List.forall_mem_cons.mpr ⟨List.mem_cons_of_mem _ (List.mem_append_left _ (List.mem_append_right _ (List.mem_append_left _ (List.mem_of_getElem? (i := 22) rfl)))), List.forall_mem_cons.mpr ⟨List.mem_cons_of_mem _ (List.mem_append_left _ (List.mem_append_left _ (List.mem_of_getElem? (i := 17) rfl))), List.forall_mem_cons.mpr ⟨List.mem_cons_of_mem _ (List.mem_append_left _ (List.mem_append_left _ (List.mem_of_getElem? (i := 18) rfl))), List.forall_mem_cons.mpr ⟨List.mem_cons_of_mem _ (List.mem_append_left _ (List.mem_append_left _ (List.mem_of_getElem? (i := 19) rfl))), List.forall_mem_cons.mpr ⟨List.mem_cons_of_mem _ (List.mem_append_left _ (List.mem_append_right _ (List.mem_append_right _ (List.mem_of_getElem? (i := 17) rfl)))), List.forall_mem_cons.mpr ⟨List.mem_cons_of_mem _ (List.mem_append_left _ (List.mem_append_right _ (List.mem_append_right _ (List.mem_of_getElem? (i := 18) rfl)))), List.forall_mem_cons.mpr ⟨List.mem_cons_of_mem _ (List.mem_append_left _ (List.mem_append_right _ (List.mem_append_right _ (List.mem_of_getElem? (i := 19) rfl)))), List.forall_mem_cons.mpr ⟨List.mem_cons_of_mem _ (List.mem_append_left _ (List.mem_append_right _ (List.mem_append_right _ (List.mem_of_getElem? (i := 20) rfl)))), List.forall_mem_cons.mpr ⟨List.mem_cons_of_mem _ (List.mem_append_left _ (List.mem_append_right _ (List.mem_append_left _ (List.mem_of_getElem? (i := 15) rfl)))), List.forall_mem_cons.mpr ⟨List.mem_cons_of_mem _ (List.mem_append_left _ (List.mem_append_right _ (List.mem_append_left _ (List.mem_of_getElem? (i := 16) rfl)))), List.forall_mem_cons.mpr ⟨List.mem_cons_of_mem _ (List.mem_append_left _ (List.mem_append_right _ (List.mem_append_left _ (List.mem_of_getElem? (i := 17) rfl)))), List.forall_mem_cons.mpr ⟨List.mem_cons_of_mem _ (List.mem_append_left _ (List.mem_append_right _ (List.mem_append_left _ (List.mem_of_getElem? (i := 18) rfl)))), nowords_in⟩⟩⟩⟩⟩⟩⟩⟩⟩⟩⟩⟩⟩⟩⟩, (fun _ h => List.mem_cons_of_mem _ (List.mem_append_right _ (h)))⟩⟩)
set_option maxRecDepth 20000 in
theorem gX11_does_X11_learns : GoodIn wsX11_does (wsV RX11 344 RX11 yX11_learns wsX11_learns) := goodIn_app (goodIn_by gd_X11_does (List.forall_mem_cons.mpr ⟨List.mem_cons_of_mem _ (List.mem_append_left _ (List.mem_append_right _ (List.mem_append_right _ (List.mem_of_getElem? (i := 3) rfl)))), List.forall_mem_cons.mpr ⟨List.mem_cons_of_mem _ (List.mem_append_left _ (List.mem_append_right _ (List.mem_append_right _ (List.mem_of_getElem? (i := 4) rfl)))), List.forall_mem_cons.mpr ⟨List.mem_cons_of_mem _ (List.mem_append_left _ (List.mem_append_right _ (List.mem_append_right _ (List.mem_of_getElem? (i := 5) rfl)))), List.forall_mem_cons.mpr ⟨List.mem_cons_of_mem _ (List.mem_append_left _ (List.mem_append_left _ (List.mem_of_getElem? (i := 4) rfl))), nowords_in⟩⟩⟩⟩)) ggX11_does_X11_learns
theorem dX11_does_0 : decode cX11_does 0 = .ok (.aload_n 0, 1) := by decide +kernel
theorem dX11_does_1 : decode cX11_does 1 = .ok (.getfield 7, 3) := by decide +kernel
theorem dX11_does_4 : decode cX11_does 4 = .ok (.iload_n 1, 1) := by decide +kernel
theorem dX11_does_5 : decode cX11_does 5 = .ok (.iconst 1, 1) := by decide +kernel
theorem dX11_does_6 : decode cX11_does 6 = .ok (.iadd, 1) := by decide +kernel
theorem dX11_does_7 : decode cX11_does 7 = .ok (.iaload, 1) := by decide +kernel
theorem dX11_does_8 : decode cX11_does 8 = .ok (.istore_n 2, 1) := by decide +kernel
theorem dX11_does_9 : decode cX11_does 9 = .ok (.aload_n 0, 1) := by decide +kernel
theorem dX11_does_10 : decode cX11_does 10 = .ok (.getfield 7, 3) := by decide +kernel
theorem dX11_does_13 : decode cX11_does 13 = .ok (.iload_n 1, 1) := by decide +kernel
theorem dX11_does_14 : decode cX11_does 14 = .ok (.iconst 2, 1) := by decide +kernel
theorem dX11_does_15 : decode cX11_does 15 = .ok (.iadd, 1) := by decide +kernel
theorem dX11_does_16 : decode cX11_does 16 = .ok (.iaload, 1) := by decide +kernel
theorem dX11_does_17 : decode cX11_does 17 = .ok (.istore_n 3, 1) := by decide +kernel
theorem dX11_does_18 : decode cX11_does 18 = .ok (.aload_n 0, 1) := by decide +kernel
theorem dX11_does_19 : decode cX11_does 19 = .ok (.getfield 7, 3) := by decide +kernel
theorem dX11_does_22 : decode cX11_does 22 = .ok (.iload_n 1, 1) := by decide +kernel
theorem dX11_does_23 : decode cX11_does 23 = .ok (.iaload, 1) := by decide +kernel
theorem dX11_does_24 : decode cX11_does 24 = .ok (.tableswitch 168 14 21 #[48, 68, 74, 80, 93, 116, 131, 146], 48) := by decide +kernel
theorem dX11_does_72 : decode cX11_does 72 = .ok (.aload_n 0, 1) := by decide +kernel
theorem dX11_does_73 : decode cX11_does 73 = .ok (.aload_n 0, 1) := by decide +kernel
theorem dX11_does_74 : decode cX11_does 74 = .ok (.bipush 16, 2) := by decide +kernel
theorem dX11_does_76 : decode cX11_does 76 = .ok (.invokevirtual 277, 3) := by decide +kernel
theorem dX11_does_79 : decode cX11_does 79 = .ok (.iload_n 2, 1) := by decide +kernel
theorem dX11_does_80 : decode cX11_does 80 = .ok (.if_icmp .ge 7, 3) := by decide +kernel
theorem dX11_does_83 : decode cX11_does 83 = .ok (.iconst 1, 1) := by decide +kernel
theorem dX11_does_84 : decode cX11_does 84 = .ok (.goto 4, 3) := by decide +kernel
theorem dX11_does_87 : decode cX11_does 87 = .ok (.iconst 0, 1) := by decide +kernel
theorem dX11_does_88 : decode cX11_does 88 = .ok (.invokevirtual 395, 3) := by decide +kernel
theorem dX11_does_91 : decode cX11_does 91 = .ok (.ireturn, 1) := by decide +kernel
theorem dX11_does_92 : decode cX11_does 92 = .ok (.aload_n 0, 1) := by decide +kernel
theorem dX11_does_93 : decode cX11_does 93 = .ok (.iconst 2, 1) := by decide +kernel
theorem dX11_does_94 : decode cX11_does 94 = .ok (.invokevirtual 395, 3) := by decide +kernel
theorem dX11_does_97 : decode cX11_does 97 = .ok (.ireturn, 1) := by decide +kernel
theorem dX11_does_98 : decode cX11_does 98 = .ok (.aload_n 0, 1) := by decide +kernel
theorem dX11_does_99 : decode cX11_does 99 = .ok (.iconst 0, 1) := by decide +kernel
theorem dX11_does_100 : decode cX11_does 100 = .ok (.invokevirtual 395, 3) := by decide +kernel
theorem dX11_does_103 : decode cX11_does 103 = .ok (.ireturn, 1) := by decide +kernel
theorem dX11_does_104 : decode cX11_does 104 = .ok (.aload_n 0, 1) := by decide +kernel
theorem dX11_does_105 : decode cX11_does 105 = .ok (.invokevirtual 286, 3) := by decide +kernel
theorem dX11_does_108 : decode cX11_does 108 = .ok (.ifCond .lt 7, 3) := by decide +kernel
theorem dX11_does_111 : decode cX11_does 111 = .ok (.iconst 1, 1) := by decide +kernel
theorem dX11_does_112 : decode cX11_does 112 = .ok (.goto 4, 3) := by decide +kernel
theorem dX11_does_115 : decode cX11_does 115 = .ok (.iconst 0, 1) := by decide +kernel
theorem dX11_does_116 : decode cX11_does 116 = .ok (.ireturn, 1) := by decide +kernel
theorem dX11_does_117 : decode cX11_does 117 = .ok (.aload_n 0, 1) := by decide +kernel
theorem dX11_does_118 : decode cX11_does 118 = .ok (.iload_n 3, 1) := by decide +kernel
theorem dX11_does_119 : decode cX11_does 119 = .ok (.invokevirtual 255, 3) := by decide +kernel
theorem dX11_does_122 : decode cX11_does 122 = .ok (.ifCond .eq 16, 3) := by decide +kernel
theorem dX11_does_125 : decode cX11_does 125 = .ok (.aload_n 0, 1) := by decide +kernel
theorem dX11_does_126 : decode cX11_does 126 = .ok (.iload_n 2, 1) := by decide +kernel
theorem dX11_does_127 : decode cX11_does 127 = .ok (.iload_n 3, 1) := by decide +kernel
theorem dX11_does_128 : decode cX11_does 128 = .ok (.invokevirtual 289, 3) := by decide +kernel
theorem dX11_does_131 : decode cX11_does 131 = .ok (.ifCond .lt 7, 3) := by decide +kernel
theorem dX11_does_134 : decode cX11_does 134 = .ok (.iconst 1, 1) := by decide +kernel
theorem dX11_does_135 : decode cX11_does 135 = .ok (.goto 4, 3) := by decide +kernel
theorem dX11_does_138 : decode cX11_does 138 = .ok (.iconst 0, 1) := by decide +kernel
theorem dX11_does_139 : decode cX11_does 139 = .ok (.ireturn, 1) := by decide +kernel
theorem dX11_does_140 : decode cX11_does 140 = .ok (.aload_n 0, 1) := by decide +kernel
theorem dX11_does_141 : decode cX11_does 141 = .ok (.getfield 7, 3) := by decide +kernel
theorem dX11_does_144 : decode cX11_does 144 = .ok (.iconst 0, 1) := by decide +kernel
theorem dX11_does_145 : decode cX11_does 145 = .ok (.iload_n 2, 1) := by decide +kernel
theorem dX11_does_146 : decode cX11_does 146 = .ok (.invokestatic 177, 3) := by decide +kernel
theorem dX11_does_149 : decode cX11_does 149 = .ok (.iconst 4, 1) := by decide +kernel
theorem dX11_does_150 : decode cX11_does 150 = .ok (.iadd, 1) := by decide +kernel
theorem dX11_does_151 : decode cX11_does 151 = .ok (.iload_n 3, 1) := by decide +kernel
theorem dX11_does_152 : decode cX11_does 152 = .ok (.iastore, 1) := by decide +kernel
theorem dX11_does_153 : decode cX11_does 153 = .ok (.iconst 1, 1) := by decide +kernel
theorem dX11_does_154 : decode cX11_does 154 = .ok (.ireturn, 1) := by decide +kernel
theorem dX11_does_155 : decode cX11_does 155 = .ok (.aload_n 0, 1) := by decide +kernel
theorem dX11_does_156 : decode cX11_does 156 = .ok (.getfield 7, 3) := by decide +kernel
theorem dX11_does_159 : decode cX11_does 159 = .ok (.iconst 0, 1) := by decide +kernel
theorem dX11_does_160 : decode cX11_does 160 = .ok (.iload_n 2, 1) := by decide +kernel
theorem dX11_does_161 : decode cX11_does 161 = .ok (.invokestatic 177, 3) := by decide +kernel
theorem dX11_does_164 : decode cX11_does 164 = .ok (.iconst 2, 1) := by decide +kernel
theorem dX11_does_165 : decode cX11_does 165 = .ok (.iadd, 1) := by decide +kernel
theorem dX11_does_166 : decode cX11_does 166 = .ok (.iload_n 3, 1) := by decide +kernel
theorem dX11_does_167 : decode cX11_does 167 = .ok (.iastore, 1) := by decide +kernel
theorem dX11_does_168 : decode cX11_does 168 = .ok (.iconst 1, 1) := by decide +kernel
theorem dX11_does_169 : decode cX11_does 169 = .ok (.ireturn, 1) := by decide +kernel
theorem dX11_does_170 : decode cX11_does 170 = .ok (.aload_n 0, 1) := by decide +kernel
theorem dX11_does_171 : decode cX11_does 171 = .ok (.iload_n 2, 1) := by decide +kernel
theorem dX11_does_172 : decode cX11_does 172 = .ok (.invokevirtual 255, 3) := by decide +kernel
theorem dX11_does_175 : decode cX11_does 175 = .ok (.ifCond .eq 15, 3) := by decide +kernel
theorem dX11_does_178 : decode cX11_does 178 = .ok (.aload_n 0, 1) := by decide +kernel
theorem dX11_does_179 : decode cX11_does 179 = .ok (.iload_n 2, 1) := by decide +kernel
theorem dX11_does_180 : decode cX11_does 180 = .ok (.invokevirtual 344, 3) := by decide +kernel
theorem dX11_does_183 : decode cX11_does 183 = .ok (.ifCond .lt 7, 3) := by decide +kernel
theorem dX11_does_186 : decode cX11_does 186 = .ok (.iconst 1, 1) := by decide +kernel
theorem dX11_does_187 : decode cX11_does 187 = .ok (.goto 4, 3) := by decide +kernel
theorem dX11_does_190 : decode cX11_does 190 = .ok (.iconst 0, 1) := by decide +kernel
theorem dX11_does_191 : decode cX11_does 191 = .ok (.ireturn, 1) := by decide +kernel
theorem dX11_does_192 : decode cX11_does 192 = .ok (.iconst 1, 1) := by decide +kernel
theorem dX11_does_193 : decode cX11_does 193 = .ok (.ireturn, 1) := by decide +kernel
abbrev rmX11_does : Room := { frames := 5, cells := 0, slots := 0, locals := 112 }
set_option maxHeartbeats 4000000 in
set_option maxRecDepth 100000 in
theorem kX11_does (l : Launch) (D : va_G) (cy : Nat → ClassId) (h0 : Nat) (a0 : Nat → Nat) (s0 : Rc) (p1 : Int32) (res : Int32 × Rc) (h : fX11_does p1 s0 = some res) : CZ l D cy yX11_does wsX11_does rmX11_does [.ref h0, .int p1] (flat [WX11 cy h0 a0 s0]) (flat [WX11 cy h0 a0 res.2]) res.1 := by
  refine CZ.of (cc := cX11_does) (maxL := 4) (by decide) rfl (Nat.le_of_ble_eq_true rfl) ?_
  intro p e s m args below meth c A QQ ls E hr
  obtain ⟨hx, hb, hml, hown, hts, hK, hN, hP, hD, hA, hl⟩ := E
  have hret : ∀ (pc : Nat) (H : Heap) (locs : List Loc) (ls : Array Slot) (u : Int32 × Rc), u = res → va_P D vwCl (flat [WX11 cy h0 a0 u.2]) H → va_D A (flat [WX11 cy h0 a0 u.2]) → va_S A s.heap H locs → isb u.1 = true → decode cX11_does pc = .ok (.ireturn, 1) → W p l e rmX11_does s m args below meth c H locs 0 0 QQ (F0 m pc ls [.int u.1]) := by
    intro pc H locs ls u hu hP hD hS hz hd; subst hu; exact hr pc H locs ls _ rfl hP hD hS hz hd
  clear hr
  have hl : lv_has ls 4 [(0, .ref h0), (1, .int p1)] := hl
  have hinX11 : ∀ w ∈ wsX110, w ∈ wsX11_does := fun _ h => List.mem_cons_of_mem _ (List.mem_append_right _ h)
  unfold fX11_does at h
  suffices key : ∀ (H : Heap) (locs : List Loc), va_P D vwCl (flat [WX11 cy h0 a0 s0]) H → va_S A s.heap H locs → W p l e rmX11_does s m args below meth c H locs 0 0 QQ (F0 m 0 ls []) from key _ _ hP va_S.rf
  clear hP
  intro H locs hP hS
  refine lv_aload_n hx hb dX11_does_0 rfl (lv_at hl 0 rfl) ?_
  refine va_get (D := D) (ci := 11) (v := .ref (a0 0)) (C := RX11) (T := TX11) (N := 38) hx hb hts hinX11 hown hK hP 0 rfl rfl 0 (by decide) (hts (.fieldLink RX11 7 "KneeBenchModel" "at" "[I") (List.mem_of_getElem? (i := 1) rfl)) (fun _ h9 => h9) rfl dX11_does_1 ?_
  refine lv_iload_n hx hb dX11_does_4 rfl (lv_at hl 1 rfl) ?_
  refine lv_iconst (v := 1) hx hb dX11_does_5 (by decide) ?_
  refine lv_iadd hx hb dX11_does_6 ?_
  obtain ⟨g1, h⟩ := gd_elim h
  refine va_iald hx hb hK hP 1 1 rfl rfl (inb_in g1) dX11_does_7 ?_
  refine lv_topi (fun x2 ex2 => ?_)
  replace h := lt_use h x2 ex2
  refine lv_istore_n (lv' := [(2, .int x2), (0, .ref h0), (1, .int p1)]) hx hb dX11_does_8 rfl hl (by decide) rfl (fun ls hl => ?_)
  refine lv_aload_n hx hb dX11_does_9 rfl (lv_at hl 1 rfl) ?_
  refine va_get (D := D) (ci := 11) (v := .ref (a0 0)) (C := RX11) (T := TX11) (N := 38) hx hb hts hinX11 hown hK hP 0 rfl rfl 0 (by decide) (hts (.fieldLink RX11 7 "KneeBenchModel" "at" "[I") (List.mem_of_getElem? (i := 1) rfl)) (fun _ h9 => h9) rfl dX11_does_10 ?_
  refine lv_iload_n hx hb dX11_does_13 rfl (lv_at hl 2 rfl) ?_
  refine lv_iconst (v := 2) hx hb dX11_does_14 (by decide) ?_
  refine lv_iadd hx hb dX11_does_15 ?_
  obtain ⟨g3, h⟩ := gd_elim h
  refine va_iald hx hb hK hP 1 1 rfl rfl (inb_in g3) dX11_does_16 ?_
  refine lv_topi (fun x4 ex4 => ?_)
  replace h := lt_use h x4 ex4
  refine lv_istore_n (lv' := [(3, .int x4), (2, .int x2), (0, .ref h0), (1, .int p1)]) hx hb dX11_does_17 rfl hl (by decide) rfl (fun ls hl => ?_)
  refine lv_aload_n hx hb dX11_does_18 rfl (lv_at hl 2 rfl) ?_
  refine va_get (D := D) (ci := 11) (v := .ref (a0 0)) (C := RX11) (T := TX11) (N := 38) hx hb hts hinX11 hown hK hP 0 rfl rfl 0 (by decide) (hts (.fieldLink RX11 7 "KneeBenchModel" "at" "[I") (List.mem_of_getElem? (i := 1) rfl)) (fun _ h9 => h9) rfl dX11_does_19 ?_
  refine lv_iload_n hx hb dX11_does_22 rfl (lv_at hl 3 rfl) ?_
  obtain ⟨g5, h⟩ := gd_elim h
  refine va_iald hx hb hK hP 1 1 rfl rfl (inb_in g5) dX11_does_23 ?_
  by_cases c6 : (ga s0 0 p1.toNatClampNeg) = (14 : Int32)
  · replace h := (if_pos c6).symm.trans h
    refine lv_tableIn (tgt := 72) hx hb dX11_does_24 (by rw [c6]; decide) (by rw [c6]; decide) (by rw [c6]; rfl) (by decide) ?_
    refine lv_aload_n hx hb dX11_does_72 rfl (lv_at hl 2 rfl) ?_
    refine lv_aload_n hx hb dX11_does_73 rfl (lv_at hl 2 rfl) ?_
    refine lv_bipush (v := 16) hx hb dX11_does_74 (by decide) ?_
    obtain ⟨r7, hr7, h⟩ := bd_elim h
    refine ca_i (w' := [WX11 cy h0 a0 r7.2]) (rn_V (As := [.int (16 : Int32)]) (rest := [.ref h0]) ⟨hx, hb, hml, hown, hts⟩ (kX11_draw l D cy h0 a0 s0 (16 : Int32) r7 hr7 H.size) (cwV 1 hts gX11_does_X11_draw rfl rfl rfl (by decide +kernel) ⟨Nat.le_of_ble_eq_true rfl, Nat.le_of_ble_eq_true rfl⟩) hK hN hP hD [0] rfl rfl (ci := 11) (q0 := 0) rfl rfl rfl rfl hl.1 rfl (Nat.le_of_ble_eq_true rfl) dX11_does_76 ⟨Nat.le_refl 0, Nat.le_refl 0⟩) hP hD hS hA [0] ⟨rfl, rfl, rfl, rfl⟩ (fun H locs hP hD hS => ?_)
    refine lv_iload_n hx hb dX11_does_79 rfl (lv_at hl 1 rfl) ?_
    refine lv_icmp_ge (tgt := 87) hx hb dX11_does_80 (by decide) (fun c8 => ?_) (fun c8 => ?_)
    · replace h := (if_pos c8).symm.trans h
      refine lv_iconst (v := 0) hx hb dX11_does_87 (by decide) ?_
      obtain ⟨r9, hr9, h⟩ := bd_elim h
      refine ca_z (w' := [WX11 cy h0 a0 r9.2]) (rn_V (As := [.int (0 : Int32)]) (rest := []) ⟨hx, hb, hml, hown, hts⟩ (kX11_dayComes l D cy h0 a0 r7.2 (0 : Int32) r9 hr9 H.size) (cwV 1 hts gX11_does_X11_dayComes rfl rfl rfl (by decide +kernel) ⟨Nat.le_of_ble_eq_true rfl, Nat.le_of_ble_eq_true rfl⟩) hK hN hP hD [0] rfl rfl (ci := 11) (q0 := 0) rfl rfl rfl rfl hl.1 rfl (Nat.le_of_ble_eq_true rfl) dX11_does_88 ⟨Nat.le_refl 0, Nat.le_refl 0⟩) hP hD hS hA [0] ⟨rfl, rfl, rfl, rfl⟩ (fun b10 H locs hP hD hS => ?_)
      exact hret 91 H locs ls (r9.1, r9.2) (Option.some.inj h) hP hD hS b10 dX11_does_91
    · replace h := (if_neg c8).symm.trans h
      refine lv_iconst (v := 1) hx hb dX11_does_83 (by decide) ?_
      refine lv_goto (tgt := 88) hx hb dX11_does_84 (by decide) ?_
      obtain ⟨r11, hr11, h⟩ := bd_elim h
      refine ca_z (w' := [WX11 cy h0 a0 r11.2]) (rn_V (As := [.int (1 : Int32)]) (rest := []) ⟨hx, hb, hml, hown, hts⟩ (kX11_dayComes l D cy h0 a0 r7.2 (1 : Int32) r11 hr11 H.size) (cwV 1 hts gX11_does_X11_dayComes rfl rfl rfl (by decide +kernel) ⟨Nat.le_of_ble_eq_true rfl, Nat.le_of_ble_eq_true rfl⟩) hK hN hP hD [0] rfl rfl (ci := 11) (q0 := 0) rfl rfl rfl rfl hl.1 rfl (Nat.le_of_ble_eq_true rfl) dX11_does_88 ⟨Nat.le_refl 0, Nat.le_refl 0⟩) hP hD hS hA [0] ⟨rfl, rfl, rfl, rfl⟩ (fun b12 H locs hP hD hS => ?_)
      exact hret 91 H locs ls (r11.1, r11.2) (Option.some.inj h) hP hD hS b12 dX11_does_91
  replace h := (if_neg c6).symm.trans h
  by_cases c13 : (ga s0 0 p1.toNatClampNeg) = (15 : Int32)
  · replace h := (if_pos c13).symm.trans h
    refine lv_tableIn (tgt := 92) hx hb dX11_does_24 (by rw [c13]; decide) (by rw [c13]; decide) (by rw [c13]; rfl) (by decide) ?_
    refine lv_aload_n hx hb dX11_does_92 rfl (lv_at hl 2 rfl) ?_
    refine lv_iconst (v := 2) hx hb dX11_does_93 (by decide) ?_
    obtain ⟨r14, hr14, h⟩ := bd_elim h
    refine ca_z (w' := [WX11 cy h0 a0 r14.2]) (rn_V (As := [.int (2 : Int32)]) (rest := []) ⟨hx, hb, hml, hown, hts⟩ (kX11_dayComes l D cy h0 a0 s0 (2 : Int32) r14 hr14 H.size) (cwV 1 hts gX11_does_X11_dayComes rfl rfl rfl (by decide +kernel) ⟨Nat.le_of_ble_eq_true rfl, Nat.le_of_ble_eq_true rfl⟩) hK hN hP hD [0] rfl rfl (ci := 11) (q0 := 0) rfl rfl rfl rfl hl.1 rfl (Nat.le_of_ble_eq_true rfl) dX11_does_94 ⟨Nat.le_refl 0, Nat.le_refl 0⟩) hP hD hS hA [0] ⟨rfl, rfl, rfl, rfl⟩ (fun b15 H locs hP hD hS => ?_)
    exact hret 97 H locs ls (r14.1, r14.2) (Option.some.inj h) hP hD hS b15 dX11_does_97
  replace h := (if_neg c13).symm.trans h
  by_cases c16 : (ga s0 0 p1.toNatClampNeg) = (16 : Int32)
  · replace h := (if_pos c16).symm.trans h
    refine lv_tableIn (tgt := 98) hx hb dX11_does_24 (by rw [c16]; decide) (by rw [c16]; decide) (by rw [c16]; rfl) (by decide) ?_
    refine lv_aload_n hx hb dX11_does_98 rfl (lv_at hl 2 rfl) ?_
    refine lv_iconst (v := 0) hx hb dX11_does_99 (by decide) ?_
    obtain ⟨r17, hr17, h⟩ := bd_elim h
    refine ca_z (w' := [WX11 cy h0 a0 r17.2]) (rn_V (As := [.int (0 : Int32)]) (rest := []) ⟨hx, hb, hml, hown, hts⟩ (kX11_dayComes l D cy h0 a0 s0 (0 : Int32) r17 hr17 H.size) (cwV 1 hts gX11_does_X11_dayComes rfl rfl rfl (by decide +kernel) ⟨Nat.le_of_ble_eq_true rfl, Nat.le_of_ble_eq_true rfl⟩) hK hN hP hD [0] rfl rfl (ci := 11) (q0 := 0) rfl rfl rfl rfl hl.1 rfl (Nat.le_of_ble_eq_true rfl) dX11_does_100 ⟨Nat.le_refl 0, Nat.le_refl 0⟩) hP hD hS hA [0] ⟨rfl, rfl, rfl, rfl⟩ (fun b18 H locs hP hD hS => ?_)
    exact hret 103 H locs ls (r17.1, r17.2) (Option.some.inj h) hP hD hS b18 dX11_does_103
  replace h := (if_neg c16).symm.trans h
  by_cases c19 : (ga s0 0 p1.toNatClampNeg) = (17 : Int32)
  · replace h := (if_pos c19).symm.trans h
    refine lv_tableIn (tgt := 104) hx hb dX11_does_24 (by rw [c19]; decide) (by rw [c19]; decide) (by rw [c19]; rfl) (by decide) ?_
    refine lv_aload_n hx hb dX11_does_104 rfl (lv_at hl 2 rfl) ?_
    obtain ⟨r20, hr20, h⟩ := bd_elim h
    refine ca_i (w' := [WX11 cy h0 a0 r20.2]) (rn_V (As := []) (rest := []) ⟨hx, hb, hml, hown, hts⟩ (kX11_feels l D cy h0 a0 s0 r20 hr20 H.size) (cwV 0 hts gX11_does_X11_feels rfl rfl rfl (by decide +kernel) ⟨Nat.le_of_ble_eq_true rfl, Nat.le_of_ble_eq_true rfl⟩) hK hN hP hD [0] rfl rfl (ci := 11) (q0 := 0) rfl rfl rfl rfl hl.1 rfl (Nat.le_of_ble_eq_true rfl) dX11_does_105 ⟨Nat.le_refl 0, Nat.le_refl 0⟩) hP hD hS hA [0] ⟨rfl, rfl, rfl, rfl⟩ (fun H locs hP hD hS => ?_)
    refine lv_if_lt (tgt := 115) hx hb dX11_does_108 (by decide) (fun c21 => ?_) (fun c21 => ?_)
    · replace h := (if_pos c21).symm.trans h
      refine lv_iconst (v := 0) hx hb dX11_does_115 (by decide) ?_
      exact hret 116 H locs ls ((0 : Int32), r20.2) (Option.some.inj h) hP hD hS (show isb (0 : Int32) = true by decide) dX11_does_116
    · replace h := (if_neg c21).symm.trans h
      refine lv_iconst (v := 1) hx hb dX11_does_111 (by decide) ?_
      refine lv_goto (tgt := 116) hx hb dX11_does_112 (by decide) ?_
      exact hret 116 H locs ls ((1 : Int32), r20.2) (Option.some.inj h) hP hD hS (show isb (1 : Int32) = true by decide) dX11_does_116
  replace h := (if_neg c19).symm.trans h
  by_cases c22 : (ga s0 0 p1.toNatClampNeg) = (18 : Int32)
  · replace h := (if_pos c22).symm.trans h
    refine lv_tableIn (tgt := 117) hx hb dX11_does_24 (by rw [c22]; decide) (by rw [c22]; decide) (by rw [c22]; rfl) (by decide) ?_
    refine lv_aload_n hx hb dX11_does_117 rfl (lv_at hl 2 rfl) ?_
    refine lv_iload_n hx hb dX11_does_118 rfl (lv_at hl 0 rfl) ?_
    refine ca_z (w' := [WX11 cy h0 a0 s0]) (rn_V (As := [.int x4]) (rest := []) ⟨hx, hb, hml, hown, hts⟩ (kX11_isDay l D cy h0 a0 s0 x4 _ rfl H.size) (cwV 1 hts gX11_does_X11_isDay rfl rfl rfl (by decide +kernel) ⟨Nat.le_of_ble_eq_true rfl, Nat.le_of_ble_eq_true rfl⟩) hK hN hP hD [0] rfl rfl (ci := 11) (q0 := 0) rfl rfl rfl rfl hl.1 rfl (Nat.le_of_ble_eq_true rfl) dX11_does_119 ⟨Nat.le_refl 0, Nat.le_refl 0⟩) hP hD hS hA [0] ⟨rfl, rfl, rfl, rfl⟩ (fun b23 H locs hP hD hS => ?_)
    refine lv_if_eq (tgt := 138) hx hb dX11_does_122 (by decide) (fun c24 => ?_) (fun c24 => ?_)
    · replace h := (if_pos c24).symm.trans h
      refine lv_iconst (v := 0) hx hb dX11_does_138 (by decide) ?_
      exact hret 139 H locs ls ((0 : Int32), s0) (Option.some.inj h) hP hD hS (show isb (0 : Int32) = true by decide) dX11_does_139
    · replace h := (if_neg c24).symm.trans h
      refine lv_aload_n hx hb dX11_does_125 rfl (lv_at hl 2 rfl) ?_
      refine lv_iload_n hx hb dX11_does_126 rfl (lv_at hl 1 rfl) ?_
      refine lv_iload_n hx hb dX11_does_127 rfl (lv_at hl 0 rfl) ?_
      obtain ⟨r25, hr25, h⟩ := bd_elim h
      refine ca_i (w' := [WX11 cy h0 a0 r25.2]) (rn_V (As := [.int x2, .int x4]) (rest := []) ⟨hx, hb, hml, hown, hts⟩ (kX11_turnsRound l D cy h0 a0 s0 x2 x4 r25 hr25 H.size) (cwV 2 hts gX11_does_X11_turnsRound rfl rfl rfl (by decide +kernel) ⟨Nat.le_of_ble_eq_true rfl, Nat.le_of_ble_eq_true rfl⟩) hK hN hP hD [0] rfl rfl (ci := 11) (q0 := 0) rfl rfl rfl rfl hl.1 rfl (Nat.le_of_ble_eq_true rfl) dX11_does_128 ⟨Nat.le_refl 0, Nat.le_refl 0⟩) hP hD hS hA [0] ⟨rfl, rfl, rfl, rfl⟩ (fun H locs hP hD hS => ?_)
      refine lv_if_lt (tgt := 138) hx hb dX11_does_131 (by decide) (fun c26 => ?_) (fun c26 => ?_)
      · replace h := (if_pos c26).symm.trans h
        refine lv_iconst (v := 0) hx hb dX11_does_138 (by decide) ?_
        exact hret 139 H locs ls ((0 : Int32), r25.2) (Option.some.inj h) hP hD hS (show isb (0 : Int32) = true by decide) dX11_does_139
      · replace h := (if_neg c26).symm.trans h
        refine lv_iconst (v := 1) hx hb dX11_does_134 (by decide) ?_
        refine lv_goto (tgt := 139) hx hb dX11_does_135 (by decide) ?_
        exact hret 139 H locs ls ((1 : Int32), r25.2) (Option.some.inj h) hP hD hS (show isb (1 : Int32) = true by decide) dX11_does_139
  replace h := (if_neg c22).symm.trans h
  by_cases c27 : (ga s0 0 p1.toNatClampNeg) = (19 : Int32)
  · replace h := (if_pos c27).symm.trans h
    refine lv_tableIn (tgt := 140) hx hb dX11_does_24 (by rw [c27]; decide) (by rw [c27]; decide) (by rw [c27]; rfl) (by decide) ?_
    refine lv_aload_n hx hb dX11_does_140 rfl (lv_at hl 2 rfl) ?_
    refine va_get (D := D) (ci := 11) (v := .ref (a0 0)) (C := RX11) (T := TX11) (N := 38) hx hb hts hinX11 hown hK hP 0 rfl rfl 0 (by decide) (hts (.fieldLink RX11 7 "KneeBenchModel" "at" "[I") (List.mem_of_getElem? (i := 1) rfl)) (fun _ h9 => h9) rfl dX11_does_141 ?_
    refine lv_iconst (v := 0) hx hb dX11_does_144 (by decide) ?_
    refine lv_iload_n hx hb dX11_does_145 rfl (lv_at hl 1 rfl) ?_
    refine ca_i (w' := [WX11 cy h0 a0 s0]) (rn_S (As := [.int (0 : Int32), .int x2]) (rest := [.ref (a0 0)]) ⟨hx, hb, hml, hown, hts⟩ (kX11_farmerRow l D cy (0 : Int32) x2 _ rfl H.size) (va_cwS 2 hts gX11_does_X11_farmerRow rfl rfl rfl (by decide +kernel) ⟨Nat.le_of_ble_eq_true rfl, Nat.le_of_ble_eq_true rfl⟩) hK hN hP hD [] rfl rfl rfl hl.1 rfl (Nat.le_of_ble_eq_true rfl) dX11_does_146 ⟨Nat.le_refl 0, Nat.le_refl 0⟩) hP hD hS hA [] ⟨rfl, rfl, rfl, rfl⟩ (fun H locs hP hD hS => ?_)
    refine lv_iconst (v := 4) hx hb dX11_does_149 (by decide) ?_
    refine lv_iadd hx hb dX11_does_150 ?_
    refine lv_iload_n hx hb dX11_does_151 rfl (lv_at hl 0 rfl) ?_
    obtain ⟨g28, h⟩ := gd_elim h
    obtain ⟨s0_29, es, h⟩ := lt_elim h
    refine va_iast hx hb hK hP hD hS 1 1 rfl rfl (inb_in g28) dX11_does_152 (fun H locs hP hD hS => ?_)
    have hP : va_P D vwCl (flat [WX11 cy h0 a0 s0_29]) H := by rw [es]; exact hP
    have hD : va_D A (flat [WX11 cy h0 a0 s0_29]) := by rw [es]; exact hD
    clear es
    refine lv_iconst (v := 1) hx hb dX11_does_153 (by decide) ?_
    exact hret 154 H locs ls ((1 : Int32), s0_29) (Option.some.inj h) hP hD hS (show isb (1 : Int32) = true by decide) dX11_does_154
  replace h := (if_neg c27).symm.trans h
  by_cases c30 : (ga s0 0 p1.toNatClampNeg) = (20 : Int32)
  · replace h := (if_pos c30).symm.trans h
    refine lv_tableIn (tgt := 155) hx hb dX11_does_24 (by rw [c30]; decide) (by rw [c30]; decide) (by rw [c30]; rfl) (by decide) ?_
    refine lv_aload_n hx hb dX11_does_155 rfl (lv_at hl 2 rfl) ?_
    refine va_get (D := D) (ci := 11) (v := .ref (a0 0)) (C := RX11) (T := TX11) (N := 38) hx hb hts hinX11 hown hK hP 0 rfl rfl 0 (by decide) (hts (.fieldLink RX11 7 "KneeBenchModel" "at" "[I") (List.mem_of_getElem? (i := 1) rfl)) (fun _ h9 => h9) rfl dX11_does_156 ?_
    refine lv_iconst (v := 0) hx hb dX11_does_159 (by decide) ?_
    refine lv_iload_n hx hb dX11_does_160 rfl (lv_at hl 1 rfl) ?_
    refine ca_i (w' := [WX11 cy h0 a0 s0]) (rn_S (As := [.int (0 : Int32), .int x2]) (rest := [.ref (a0 0)]) ⟨hx, hb, hml, hown, hts⟩ (kX11_farmerRow l D cy (0 : Int32) x2 _ rfl H.size) (va_cwS 2 hts gX11_does_X11_farmerRow rfl rfl rfl (by decide +kernel) ⟨Nat.le_of_ble_eq_true rfl, Nat.le_of_ble_eq_true rfl⟩) hK hN hP hD [] rfl rfl rfl hl.1 rfl (Nat.le_of_ble_eq_true rfl) dX11_does_161 ⟨Nat.le_refl 0, Nat.le_refl 0⟩) hP hD hS hA [] ⟨rfl, rfl, rfl, rfl⟩ (fun H locs hP hD hS => ?_)
    refine lv_iconst (v := 2) hx hb dX11_does_164 (by decide) ?_
    refine lv_iadd hx hb dX11_does_165 ?_
    refine lv_iload_n hx hb dX11_does_166 rfl (lv_at hl 0 rfl) ?_
    obtain ⟨g31, h⟩ := gd_elim h
    obtain ⟨s0_32, es, h⟩ := lt_elim h
    refine va_iast hx hb hK hP hD hS 1 1 rfl rfl (inb_in g31) dX11_does_167 (fun H locs hP hD hS => ?_)
    have hP : va_P D vwCl (flat [WX11 cy h0 a0 s0_32]) H := by rw [es]; exact hP
    have hD : va_D A (flat [WX11 cy h0 a0 s0_32]) := by rw [es]; exact hD
    clear es
    refine lv_iconst (v := 1) hx hb dX11_does_168 (by decide) ?_
    exact hret 169 H locs ls ((1 : Int32), s0_32) (Option.some.inj h) hP hD hS (show isb (1 : Int32) = true by decide) dX11_does_169
  replace h := (if_neg c30).symm.trans h
  by_cases c33 : (ga s0 0 p1.toNatClampNeg) = (21 : Int32)
  · replace h := (if_pos c33).symm.trans h
    refine lv_tableIn (tgt := 170) hx hb dX11_does_24 (by rw [c33]; decide) (by rw [c33]; decide) (by rw [c33]; rfl) (by decide) ?_
    refine lv_aload_n hx hb dX11_does_170 rfl (lv_at hl 2 rfl) ?_
    refine lv_iload_n hx hb dX11_does_171 rfl (lv_at hl 1 rfl) ?_
    refine ca_z (w' := [WX11 cy h0 a0 s0]) (rn_V (As := [.int x2]) (rest := []) ⟨hx, hb, hml, hown, hts⟩ (kX11_isDay l D cy h0 a0 s0 x2 _ rfl H.size) (cwV 1 hts gX11_does_X11_isDay rfl rfl rfl (by decide +kernel) ⟨Nat.le_of_ble_eq_true rfl, Nat.le_of_ble_eq_true rfl⟩) hK hN hP hD [0] rfl rfl (ci := 11) (q0 := 0) rfl rfl rfl rfl hl.1 rfl (Nat.le_of_ble_eq_true rfl) dX11_does_172 ⟨Nat.le_refl 0, Nat.le_refl 0⟩) hP hD hS hA [0] ⟨rfl, rfl, rfl, rfl⟩ (fun b34 H locs hP hD hS => ?_)
    refine lv_if_eq (tgt := 190) hx hb dX11_does_175 (by decide) (fun c35 => ?_) (fun c35 => ?_)
    · replace h := (if_pos c35).symm.trans h
      refine lv_iconst (v := 0) hx hb dX11_does_190 (by decide) ?_
      exact hret 191 H locs ls ((0 : Int32), s0) (Option.some.inj h) hP hD hS (show isb (0 : Int32) = true by decide) dX11_does_191
    · replace h := (if_neg c35).symm.trans h
      refine lv_aload_n hx hb dX11_does_178 rfl (lv_at hl 2 rfl) ?_
      refine lv_iload_n hx hb dX11_does_179 rfl (lv_at hl 1 rfl) ?_
      obtain ⟨r36, hr36, h⟩ := bd_elim h
      refine ca_i (w' := [WX11 cy h0 a0 r36.2]) (rn_V (As := [.int x2]) (rest := []) ⟨hx, hb, hml, hown, hts⟩ (kX11_learns l D cy h0 a0 s0 x2 r36 hr36 H.size) (cwV 1 hts gX11_does_X11_learns rfl rfl rfl (by decide +kernel) ⟨Nat.le_of_ble_eq_true rfl, Nat.le_of_ble_eq_true rfl⟩) hK hN hP hD [0] rfl rfl (ci := 11) (q0 := 0) rfl rfl rfl rfl hl.1 rfl (Nat.le_of_ble_eq_true rfl) dX11_does_180 ⟨Nat.le_refl 0, Nat.le_refl 0⟩) hP hD hS hA [0] ⟨rfl, rfl, rfl, rfl⟩ (fun H locs hP hD hS => ?_)
      refine lv_if_lt (tgt := 190) hx hb dX11_does_183 (by decide) (fun c37 => ?_) (fun c37 => ?_)
      · replace h := (if_pos c37).symm.trans h
        refine lv_iconst (v := 0) hx hb dX11_does_190 (by decide) ?_
        exact hret 191 H locs ls ((0 : Int32), r36.2) (Option.some.inj h) hP hD hS (show isb (0 : Int32) = true by decide) dX11_does_191
      · replace h := (if_neg c37).symm.trans h
        refine lv_iconst (v := 1) hx hb dX11_does_186 (by decide) ?_
        refine lv_goto (tgt := 191) hx hb dX11_does_187 (by decide) ?_
        exact hret 191 H locs ls ((1 : Int32), r36.2) (Option.some.inj h) hP hD hS (show isb (1 : Int32) = true by decide) dX11_does_191
  replace h := (if_neg c33).symm.trans h
  have ic6 : (ga s0 0 p1.toNatClampNeg).toInt ≠ 14 := fun z => c6 (Int32.toInt_inj.mp (z.trans (by decide)))
  have ic13 : (ga s0 0 p1.toNatClampNeg).toInt ≠ 15 := fun z => c13 (Int32.toInt_inj.mp (z.trans (by decide)))
  have ic16 : (ga s0 0 p1.toNatClampNeg).toInt ≠ 16 := fun z => c16 (Int32.toInt_inj.mp (z.trans (by decide)))
  have ic19 : (ga s0 0 p1.toNatClampNeg).toInt ≠ 17 := fun z => c19 (Int32.toInt_inj.mp (z.trans (by decide)))
  have ic22 : (ga s0 0 p1.toNatClampNeg).toInt ≠ 18 := fun z => c22 (Int32.toInt_inj.mp (z.trans (by decide)))
  have ic27 : (ga s0 0 p1.toNatClampNeg).toInt ≠ 19 := fun z => c27 (Int32.toInt_inj.mp (z.trans (by decide)))
  have ic30 : (ga s0 0 p1.toNatClampNeg).toInt ≠ 20 := fun z => c30 (Int32.toInt_inj.mp (z.trans (by decide)))
  have ic33 : (ga s0 0 p1.toNatClampNeg).toInt ≠ 21 := fun z => c33 (Int32.toInt_inj.mp (z.trans (by decide)))
  have hsw : (ga s0 0 p1.toNatClampNeg).toInt < 14 ∨ 21 < (ga s0 0 p1.toNatClampNeg).toInt := by omega
  refine lv_tdf (tgt := 192) hx hb dX11_does_24 ?_ (by decide) ?_
  · rcases hsw with z | z
    · exact Or.inl z
    · exact Or.inr (Or.inl z)
  refine lv_iconst (v := 1) hx hb dX11_does_192 (by decide) ?_
  exact hret 193 H locs ls ((1 : Int32), s0) (Option.some.inj h) hP hD hS (show isb (1 : Int32) = true by decide) dX11_does_193
theorem gd_X11_farmer : wsX11_farmer.all goodWord = true := by decide +kernel
set_option maxRecDepth 20000 in
theorem ggX11_farmer_X11_isFarmer : GoodIn wsX11_farmer wsX11_isFarmer := goodIn_by gd_X11_farmer (List.forall_mem_cons.mpr ⟨List.mem_cons_of_mem _ (List.mem_append_left _ (List.mem_of_getElem? (i := 6) rfl)), List.forall_mem_append.mpr ⟨List.forall_mem_cons.mpr ⟨List.mem_cons_of_mem _ (List.mem_append_left _ (List.mem_of_getElem? (i := 0) rfl)), nowords_in⟩, (fun _ h => List.mem_cons_of_mem _ (List.mem_append_right _ (h)))⟩⟩)
set_option maxRecDepth 20000 in
theorem gX11_farmer_X11_isFarmer : GoodIn wsX11_farmer (wsV RX11 267 RX11 yX11_isFarmer wsX11_isFarmer) := goodIn_app (goodIn_by gd_X11_farmer (List.forall_mem_cons.mpr ⟨List.mem_cons_of_mem _ (List.mem_append_left _ (List.mem_of_getElem? (i := 2) rfl)), List.forall_mem_cons.mpr ⟨List.mem_cons_of_mem _ (List.mem_append_left _ (List.mem_of_getElem? (i := 3) rfl)), List.forall_mem_cons.mpr ⟨List.mem_cons_of_mem _ (List.mem_append_left _ (List.mem_of_getElem? (i := 4) rfl)), List.forall_mem_cons.mpr ⟨List.mem_cons_of_mem _ (List.mem_append_left _ (List.mem_of_getElem? (i := 5) rfl)), nowords_in⟩⟩⟩⟩)) ggX11_farmer_X11_isFarmer
set_option maxRecDepth 20000 in
theorem ggX11_farmer_X11_refuse : GoodIn wsX11_farmer wsX11_refuse := goodIn_by gd_X11_farmer (List.forall_mem_cons.mpr ⟨List.mem_cons_of_mem _ (List.mem_append_left _ (List.mem_of_getElem? (i := 10) rfl)), List.forall_mem_append.mpr ⟨List.forall_mem_cons.mpr ⟨List.mem_cons_of_mem _ (List.mem_append_left _ (List.mem_of_getElem? (i := 11) rfl)), nowords_in⟩, (fun _ h => List.mem_cons_of_mem _ (List.mem_append_right _ (h)))⟩⟩)
set_option maxRecDepth 20000 in
theorem gX11_farmer_X11_refuse : GoodIn wsX11_farmer (wsV RX11 75 RX11 yX11_refuse wsX11_refuse) := goodIn_app (goodIn_by gd_X11_farmer (List.forall_mem_cons.mpr ⟨List.mem_cons_of_mem _ (List.mem_append_left _ (List.mem_of_getElem? (i := 7) rfl)), List.forall_mem_cons.mpr ⟨List.mem_cons_of_mem _ (List.mem_append_left _ (List.mem_of_getElem? (i := 8) rfl)), List.forall_mem_cons.mpr ⟨List.mem_cons_of_mem _ (List.mem_append_left _ (List.mem_of_getElem? (i := 9) rfl)), List.forall_mem_cons.mpr ⟨List.mem_cons_of_mem _ (List.mem_append_left _ (List.mem_of_getElem? (i := 5) rfl)), nowords_in⟩⟩⟩⟩)) ggX11_farmer_X11_refuse
set_option maxRecDepth 20000 in
theorem ggX11_farmer_X11_farmerRow : GoodIn wsX11_farmer wsX11_farmerRow := goodIn_by gd_X11_farmer (List.forall_mem_cons.mpr ⟨List.mem_cons_of_mem _ (List.mem_append_left _ (List.mem_of_getElem? (i := 14) rfl)), nowords_in⟩)
set_option maxRecDepth 20000 in
theorem gX11_farmer_X11_farmerRow : GoodIn wsX11_farmer (va_wsS RX11 177 yX11_farmerRow wsX11_farmerRow) := goodIn_app (goodIn_by gd_X11_farmer (List.forall_mem_cons.mpr ⟨List.mem_cons_of_mem _ (List.mem_append_left _ (List.mem_of_getElem? (i := 12) rfl)), List.forall_mem_cons.mpr ⟨List.mem_cons_of_mem _ (List.mem_append_left _ (List.mem_of_getElem? (i := 13) rfl)), List.forall_mem_cons.mpr ⟨List.mem_cons_of_mem _ (List.mem_append_left _ (List.mem_of_getElem? (i := 5) rfl)), nowords_in⟩⟩⟩)) ggX11_farmer_X11_farmerRow
set_option maxRecDepth 20000 in
theorem ggX11_farmer_X11_gives : GoodIn wsX11_farmer wsX11_gives := goodIn_by gd_X11_farmer (List.forall_mem_cons.mpr ⟨List.mem_cons_of_mem _ (List.mem_append_left _ (List.mem_of_getElem? (i := 18) rfl)), List.forall_mem_append.mpr ⟨List.forall_mem_cons.mpr ⟨List.mem_cons_of_mem _ (List.mem_append_left _ (List.mem_of_getElem? (i := 11) rfl)), nowords_in⟩, (fun _ h => List.mem_cons_of_mem _ (List.mem_append_right _ (h)))⟩⟩)
set_option maxRecDepth 20000 in
theorem gX11_farmer_X11_gives : GoodIn wsX11_farmer (wsV RX11 79 RX11 yX11_gives wsX11_gives) := goodIn_app (goodIn_by gd_X11_farmer (List.forall_mem_cons.mpr ⟨List.mem_cons_of_mem _ (List.mem_append_left _ (List.mem_of_getElem? (i := 15) rfl)), List.forall_mem_cons.mpr ⟨List.mem_cons_of_mem _ (List.mem_append_left _ (List.mem_of_getElem? (i := 16) rfl)), List.forall_mem_cons.mpr ⟨List.mem_cons_of_mem _ (List.mem_append_left _ (List.mem_of_getElem? (i := 17) rfl)), List.forall_mem_cons.mpr ⟨List.mem_cons_of_mem _ (List.mem_append_left _ (List.mem_of_getElem? (i := 5) rfl)), nowords_in⟩⟩⟩⟩)) ggX11_farmer_X11_gives
set_option maxRecDepth 20000 in
theorem ggX11_farmer_X11_twingeRow : GoodIn wsX11_farmer wsX11_twingeRow := goodIn_by gd_X11_farmer (List.forall_mem_cons.mpr ⟨List.mem_cons_of_mem _ (List.mem_append_left _ (List.mem_of_getElem? (i := 21) rfl)), nowords_in⟩)
set_option maxRecDepth 20000 in
theorem gX11_farmer_X11_twingeRow : GoodIn wsX11_farmer (va_wsS RX11 225 yX11_twingeRow wsX11_twingeRow) := goodIn_app (goodIn_by gd_X11_farmer (List.forall_mem_cons.mpr ⟨List.mem_cons_of_mem _ (List.mem_append_left _ (List.mem_of_getElem? (i := 19) rfl)), List.forall_mem_cons.mpr ⟨List.mem_cons_of_mem _ (List.mem_append_left _ (List.mem_of_getElem? (i := 20) rfl)), List.forall_mem_cons.mpr ⟨List.mem_cons_of_mem _ (List.mem_append_left _ (List.mem_of_getElem? (i := 5) rfl)), nowords_in⟩⟩⟩)) ggX11_farmer_X11_twingeRow
theorem dX11_farmer_0 : decode cX11_farmer 0 = .ok (.aload_n 0, 1) := by decide +kernel
theorem dX11_farmer_1 : decode cX11_farmer 1 = .ok (.iload_n 1, 1) := by decide +kernel
theorem dX11_farmer_2 : decode cX11_farmer 2 = .ok (.invokevirtual 267, 3) := by decide +kernel
theorem dX11_farmer_5 : decode cX11_farmer 5 = .ok (.ifCond .eq 13, 3) := by decide +kernel
theorem dX11_farmer_8 : decode cX11_farmer 8 = .ok (.iload_n 2, 1) := by decide +kernel
theorem dX11_farmer_9 : decode cX11_farmer 9 = .ok (.ifCond .lt 9, 3) := by decide +kernel
theorem dX11_farmer_12 : decode cX11_farmer 12 = .ok (.iload_n 2, 1) := by decide +kernel
theorem dX11_farmer_13 : decode cX11_farmer 13 = .ok (.bipush 6, 2) := by decide +kernel
theorem dX11_farmer_15 : decode cX11_farmer 15 = .ok (.if_icmp .le 9, 3) := by decide +kernel
theorem dX11_farmer_18 : decode cX11_farmer 18 = .ok (.aload_n 0, 1) := by decide +kernel
theorem dX11_farmer_19 : decode cX11_farmer 19 = .ok (.iconst 1, 1) := by decide +kernel
theorem dX11_farmer_20 : decode cX11_farmer 20 = .ok (.invokevirtual 75, 3) := by decide +kernel
theorem dX11_farmer_23 : decode cX11_farmer 23 = .ok (.ireturn, 1) := by decide +kernel
theorem dX11_farmer_24 : decode cX11_farmer 24 = .ok (.iconst 0, 1) := by decide +kernel
theorem dX11_farmer_25 : decode cX11_farmer 25 = .ok (.iload_n 1, 1) := by decide +kernel
theorem dX11_farmer_26 : decode cX11_farmer 26 = .ok (.invokestatic 177, 3) := by decide +kernel
theorem dX11_farmer_29 : decode cX11_farmer 29 = .ok (.istore_n 3, 1) := by decide +kernel
theorem dX11_farmer_30 : decode cX11_farmer 30 = .ok (.iload_n 2, 1) := by decide +kernel
theorem dX11_farmer_31 : decode cX11_farmer 31 = .ok (.iconst 4, 1) := by decide +kernel
theorem dX11_farmer_32 : decode cX11_farmer 32 = .ok (.if_icmp .ne 38, 3) := by decide +kernel
theorem dX11_farmer_35 : decode cX11_farmer 35 = .ok (.aload_n 0, 1) := by decide +kernel
theorem dX11_farmer_36 : decode cX11_farmer 36 = .ok (.getfield 7, 3) := by decide +kernel
theorem dX11_farmer_39 : decode cX11_farmer 39 = .ok (.iload_n 3, 1) := by decide +kernel
theorem dX11_farmer_40 : decode cX11_farmer 40 = .ok (.iconst 4, 1) := by decide +kernel
theorem dX11_farmer_41 : decode cX11_farmer 41 = .ok (.iadd, 1) := by decide +kernel
theorem dX11_farmer_42 : decode cX11_farmer 42 = .ok (.iaload, 1) := by decide +kernel
theorem dX11_farmer_43 : decode cX11_farmer 43 = .ok (.ldc 191, 2) := by decide +kernel
theorem dX11_farmer_45 : decode cX11_farmer 45 = .ok (.if_icmp .ne 12, 3) := by decide +kernel
theorem dX11_farmer_48 : decode cX11_farmer 48 = .ok (.aload_n 0, 1) := by decide +kernel
theorem dX11_farmer_49 : decode cX11_farmer 49 = .ok (.bipush 6, 2) := by decide +kernel
theorem dX11_farmer_51 : decode cX11_farmer 51 = .ok (.invokevirtual 75, 3) := by decide +kernel
theorem dX11_farmer_54 : decode cX11_farmer 54 = .ok (.goto 15, 3) := by decide +kernel
theorem dX11_farmer_57 : decode cX11_farmer 57 = .ok (.aload_n 0, 1) := by decide +kernel
theorem dX11_farmer_58 : decode cX11_farmer 58 = .ok (.aload_n 0, 1) := by decide +kernel
theorem dX11_farmer_59 : decode cX11_farmer 59 = .ok (.getfield 7, 3) := by decide +kernel
theorem dX11_farmer_62 : decode cX11_farmer 62 = .ok (.iload_n 3, 1) := by decide +kernel
theorem dX11_farmer_63 : decode cX11_farmer 63 = .ok (.iconst 4, 1) := by decide +kernel
theorem dX11_farmer_64 : decode cX11_farmer 64 = .ok (.iadd, 1) := by decide +kernel
theorem dX11_farmer_65 : decode cX11_farmer 65 = .ok (.iaload, 1) := by decide +kernel
theorem dX11_farmer_66 : decode cX11_farmer 66 = .ok (.invokevirtual 79, 3) := by decide +kernel
theorem dX11_farmer_69 : decode cX11_farmer 69 = .ok (.ireturn, 1) := by decide +kernel
theorem dX11_farmer_70 : decode cX11_farmer 70 = .ok (.iload_n 2, 1) := by decide +kernel
theorem dX11_farmer_71 : decode cX11_farmer 71 = .ok (.bipush 6, 2) := by decide +kernel
theorem dX11_farmer_73 : decode cX11_farmer 73 = .ok (.if_icmp .ge 16, 3) := by decide +kernel
theorem dX11_farmer_76 : decode cX11_farmer 76 = .ok (.aload_n 0, 1) := by decide +kernel
theorem dX11_farmer_77 : decode cX11_farmer 77 = .ok (.aload_n 0, 1) := by decide +kernel
theorem dX11_farmer_78 : decode cX11_farmer 78 = .ok (.getfield 7, 3) := by decide +kernel
theorem dX11_farmer_81 : decode cX11_farmer 81 = .ok (.iload_n 3, 1) := by decide +kernel
theorem dX11_farmer_82 : decode cX11_farmer 82 = .ok (.iload_n 2, 1) := by decide +kernel
theorem dX11_farmer_83 : decode cX11_farmer 83 = .ok (.iadd, 1) := by decide +kernel
theorem dX11_farmer_84 : decode cX11_farmer 84 = .ok (.iaload, 1) := by decide +kernel
theorem dX11_farmer_85 : decode cX11_farmer 85 = .ok (.invokevirtual 79, 3) := by decide +kernel
theorem dX11_farmer_88 : decode cX11_farmer 88 = .ok (.ireturn, 1) := by decide +kernel
theorem dX11_farmer_89 : decode cX11_farmer 89 = .ok (.iconst 0, 1) := by decide +kernel
theorem dX11_farmer_90 : decode cX11_farmer 90 = .ok (.istore 4, 2) := by decide +kernel
theorem dX11_farmer_92 : decode cX11_farmer 92 = .ok (.iconst 0, 1) := by decide +kernel
theorem dX11_farmer_93 : decode cX11_farmer 93 = .ok (.istore 5, 2) := by decide +kernel
theorem dX11_farmer_95 : decode cX11_farmer 95 = .ok (.iload 5, 2) := by decide +kernel
theorem dX11_farmer_97 : decode cX11_farmer 97 = .ok (.aload_n 0, 1) := by decide +kernel
theorem dX11_farmer_98 : decode cX11_farmer 98 = .ok (.getfield 7, 3) := by decide +kernel
theorem dX11_farmer_101 : decode cX11_farmer 101 = .ok (.iconst 1, 1) := by decide +kernel
theorem dX11_farmer_102 : decode cX11_farmer 102 = .ok (.iaload, 1) := by decide +kernel
theorem dX11_farmer_103 : decode cX11_farmer 103 = .ok (.if_icmp .ge 25, 3) := by decide +kernel
theorem dX11_farmer_106 : decode cX11_farmer 106 = .ok (.iload 4, 2) := by decide +kernel
theorem dX11_farmer_108 : decode cX11_farmer 108 = .ok (.aload_n 0, 1) := by decide +kernel
theorem dX11_farmer_109 : decode cX11_farmer 109 = .ok (.getfield 7, 3) := by decide +kernel
theorem dX11_farmer_112 : decode cX11_farmer 112 = .ok (.iload_n 1, 1) := by decide +kernel
theorem dX11_farmer_113 : decode cX11_farmer 113 = .ok (.iload 5, 2) := by decide +kernel
theorem dX11_farmer_115 : decode cX11_farmer 115 = .ok (.invokestatic 225, 3) := by decide +kernel
theorem dX11_farmer_118 : decode cX11_farmer 118 = .ok (.iaload, 1) := by decide +kernel
theorem dX11_farmer_119 : decode cX11_farmer 119 = .ok (.iadd, 1) := by decide +kernel
theorem dX11_farmer_120 : decode cX11_farmer 120 = .ok (.istore 4, 2) := by decide +kernel
theorem dX11_farmer_122 : decode cX11_farmer 122 = .ok (.iinc 5 1, 3) := by decide +kernel
theorem dX11_farmer_125 : decode cX11_farmer 125 = .ok (.goto (-30), 3) := by decide +kernel
theorem dX11_farmer_128 : decode cX11_farmer 128 = .ok (.aload_n 0, 1) := by decide +kernel
theorem dX11_farmer_129 : decode cX11_farmer 129 = .ok (.iload 4, 2) := by decide +kernel
theorem dX11_farmer_131 : decode cX11_farmer 131 = .ok (.invokevirtual 79, 3) := by decide +kernel
theorem dX11_farmer_134 : decode cX11_farmer 134 = .ok (.ireturn, 1) := by decide +kernel
abbrev rmX11_farmer : Room := { frames := 1, cells := 0, slots := 0, locals := 21 }
set_option maxHeartbeats 4000000 in
set_option maxRecDepth 100000 in
theorem kX11_farmer (l : Launch) (D : va_G) (cy : Nat → ClassId) (h0 : Nat) (a0 : Nat → Nat) (s0 : Rc) (p1 : Int32) (p2 : Int32) (res : Int32 × Rc) (h : fX11_farmer p1 p2 s0 = some res) : CI l D cy yX11_farmer wsX11_farmer rmX11_farmer [.ref h0, .int p1, .int p2] (flat [WX11 cy h0 a0 s0]) (flat [WX11 cy h0 a0 res.2]) res.1 := by
  refine CI.of (cc := cX11_farmer) (maxL := 6) (by decide) rfl (Nat.le_of_ble_eq_true rfl) ?_
  intro p e s m args below meth c A QQ ls E hr
  obtain ⟨hx, hb, hml, hown, hts, hK, hN, hP, hD, hA, hl⟩ := E
  have hret : ∀ (pc : Nat) (H : Heap) (locs : List Loc) (ls : Array Slot) (u : Int32 × Rc), u = res → va_P D vwCl (flat [WX11 cy h0 a0 u.2]) H → va_D A (flat [WX11 cy h0 a0 u.2]) → va_S A s.heap H locs → decode cX11_farmer pc = .ok (.ireturn, 1) → W p l e rmX11_farmer s m args below meth c H locs 0 0 QQ (F0 m pc ls [.int u.1]) := by
    intro pc H locs ls u hu hP hD hS hd; subst hu; exact hr pc H locs ls _ rfl hP hD hS hd
  clear hr
  have hl : lv_has ls 6 [(0, .ref h0), (1, .int p1), (2, .int p2)] := hl
  have hinX11 : ∀ w ∈ wsX110, w ∈ wsX11_farmer := fun _ h => List.mem_cons_of_mem _ (List.mem_append_right _ h)
  unfold fX11_farmer at h
  suffices key : ∀ (H : Heap) (locs : List Loc), va_P D vwCl (flat [WX11 cy h0 a0 s0]) H → va_S A s.heap H locs → W p l e rmX11_farmer s m args below meth c H locs 0 0 QQ (F0 m 0 ls []) from key _ _ hP va_S.rf
  clear hP
  intro H locs hP hS
  refine lv_aload_n hx hb dX11_farmer_0 rfl (lv_at hl 0 rfl) ?_
  refine lv_iload_n hx hb dX11_farmer_1 rfl (lv_at hl 1 rfl) ?_
  refine ca_z (w' := [WX11 cy h0 a0 s0]) (rn_V (As := [.int p1]) (rest := []) ⟨hx, hb, hml, hown, hts⟩ (kX11_isFarmer l D cy h0 a0 s0 p1 _ rfl H.size) (cwV 1 hts gX11_farmer_X11_isFarmer rfl rfl rfl (by decide +kernel) ⟨Nat.le_of_ble_eq_true rfl, Nat.le_of_ble_eq_true rfl⟩) hK hN hP hD [0] rfl rfl (ci := 11) (q0 := 0) rfl rfl rfl rfl hl.1 rfl (Nat.le_of_ble_eq_true rfl) dX11_farmer_2 ⟨Nat.le_refl 0, Nat.le_refl 0⟩) hP hD hS hA [0] ⟨rfl, rfl, rfl, rfl⟩ (fun b1 H locs hP hD hS => ?_)
  refine lv_if_eq (tgt := 18) hx hb dX11_farmer_5 (by decide) (fun c2 => ?_) (fun c2 => ?_)
  · replace h := (if_pos c2).symm.trans h
    refine lv_aload_n hx hb dX11_farmer_18 rfl (lv_at hl 0 rfl) ?_
    refine lv_iconst (v := 1) hx hb dX11_farmer_19 (by decide) ?_
    obtain ⟨r3, hr3, h⟩ := lt_elim h
    refine ca_i (w' := [WX11 cy h0 a0 r3.2]) (rn_V (As := [.int (1 : Int32)]) (rest := []) ⟨hx, hb, hml, hown, hts⟩ (kX11_refuse l D cy h0 a0 s0 (1 : Int32) r3 hr3.symm H.size) (cwV 1 hts gX11_farmer_X11_refuse rfl rfl rfl (by decide +kernel) ⟨Nat.le_of_ble_eq_true rfl, Nat.le_of_ble_eq_true rfl⟩) hK hN hP hD [0] rfl rfl (ci := 11) (q0 := 0) rfl rfl rfl rfl hl.1 rfl (Nat.le_of_ble_eq_true rfl) dX11_farmer_20 ⟨Nat.le_refl 0, Nat.le_refl 0⟩) hP hD hS hA [0] ⟨rfl, rfl, rfl, rfl⟩ (fun H locs hP hD hS => ?_)
    exact hret 23 H locs ls (r3.1, r3.2) (Option.some.inj h) hP hD hS dX11_farmer_23
  · replace h := (if_neg c2).symm.trans h
    refine lv_iload_n hx hb dX11_farmer_8 rfl (lv_at hl 2 rfl) ?_
    refine lv_if_lt (tgt := 18) hx hb dX11_farmer_9 (by decide) (fun c4 => ?_) (fun c4 => ?_)
    · replace h := (if_pos c4).symm.trans h
      refine lv_aload_n hx hb dX11_farmer_18 rfl (lv_at hl 0 rfl) ?_
      refine lv_iconst (v := 1) hx hb dX11_farmer_19 (by decide) ?_
      obtain ⟨r5, hr5, h⟩ := lt_elim h
      refine ca_i (w' := [WX11 cy h0 a0 r5.2]) (rn_V (As := [.int (1 : Int32)]) (rest := []) ⟨hx, hb, hml, hown, hts⟩ (kX11_refuse l D cy h0 a0 s0 (1 : Int32) r5 hr5.symm H.size) (cwV 1 hts gX11_farmer_X11_refuse rfl rfl rfl (by decide +kernel) ⟨Nat.le_of_ble_eq_true rfl, Nat.le_of_ble_eq_true rfl⟩) hK hN hP hD [0] rfl rfl (ci := 11) (q0 := 0) rfl rfl rfl rfl hl.1 rfl (Nat.le_of_ble_eq_true rfl) dX11_farmer_20 ⟨Nat.le_refl 0, Nat.le_refl 0⟩) hP hD hS hA [0] ⟨rfl, rfl, rfl, rfl⟩ (fun H locs hP hD hS => ?_)
      exact hret 23 H locs ls (r5.1, r5.2) (Option.some.inj h) hP hD hS dX11_farmer_23
    · replace h := (if_neg c4).symm.trans h
      refine lv_iload_n hx hb dX11_farmer_12 rfl (lv_at hl 2 rfl) ?_
      refine lv_bipush (v := 6) hx hb dX11_farmer_13 (by decide) ?_
      refine lv_icmp_le (tgt := 24) hx hb dX11_farmer_15 (by decide) (fun c6 => ?_) (fun c6 => ?_)
      · replace h := (if_pos c6).symm.trans h
        refine lv_iconst (v := 0) hx hb dX11_farmer_24 (by decide) ?_
        refine lv_iload_n hx hb dX11_farmer_25 rfl (lv_at hl 1 rfl) ?_
        refine ca_i (w' := [WX11 cy h0 a0 s0]) (rn_S (As := [.int (0 : Int32), .int p1]) (rest := []) ⟨hx, hb, hml, hown, hts⟩ (kX11_farmerRow l D cy (0 : Int32) p1 _ rfl H.size) (va_cwS 2 hts gX11_farmer_X11_farmerRow rfl rfl rfl (by decide +kernel) ⟨Nat.le_of_ble_eq_true rfl, Nat.le_of_ble_eq_true rfl⟩) hK hN hP hD [] rfl rfl rfl hl.1 rfl (Nat.le_of_ble_eq_true rfl) dX11_farmer_26 ⟨Nat.le_refl 0, Nat.le_refl 0⟩) hP hD hS hA [] ⟨rfl, rfl, rfl, rfl⟩ (fun H locs hP hD hS => ?_)
        refine lv_topi (fun x7 ex7 => ?_)
        replace h := lt_use h x7 ex7
        refine lv_istore_n (lv' := [(3, .int x7), (0, .ref h0), (1, .int p1), (2, .int p2)]) hx hb dX11_farmer_29 rfl hl (by decide) rfl (fun ls hl => ?_)
        refine lv_iload_n hx hb dX11_farmer_30 rfl (lv_at hl 3 rfl) ?_
        refine lv_iconst (v := 4) hx hb dX11_farmer_31 (by decide) ?_
        refine lv_icmp_ne (tgt := 70) hx hb dX11_farmer_32 (by decide) (fun c8 => ?_) (fun c8 => ?_)
        · replace h := (if_neg c8).symm.trans h
          refine lv_iload_n hx hb dX11_farmer_70 rfl (lv_at hl 3 rfl) ?_
          refine lv_bipush (v := 6) hx hb dX11_farmer_71 (by decide) ?_
          refine lv_icmp_ge (tgt := 89) hx hb dX11_farmer_73 (by decide) (fun c9 => ?_) (fun c9 => ?_)
          · replace h := (if_pos c9).symm.trans h
            refine lv_iconst (v := 0) hx hb dX11_farmer_89 (by decide) ?_
            refine lv_istore (lv' := [(4, .int (0 : Int32)), (3, .int x7), (0, .ref h0), (1, .int p1), (2, .int p2)]) hx hb dX11_farmer_90 hl (by decide) rfl (fun ls hl => ?_)
            refine lv_iconst (v := 0) hx hb dX11_farmer_92 (by decide) ?_
            refine lv_istore (lv' := [(5, .int (0 : Int32)), (4, .int (0 : Int32)), (3, .int x7), (0, .ref h0), (1, .int p1), (2, .int p2)]) hx hb dX11_farmer_93 hl (by decide) rfl (fun ls hl => ?_)
            have L95 : ∀ (n : Nat) (q95 : Int32 × Int32) (o : Int32), loopO (fX11_farmer_L95 p1 s0) n q95 = some o → ∀ (H : Heap) (locs : List Loc) (ls : Array Slot), lv_has ls 6 [(0, .ref h0), (1, .int p1), (4, .int q95.1), (5, .int q95.2)] → va_P D vwCl (flat [WX11 cy h0 a0 s0]) H → va_D A (flat [WX11 cy h0 a0 s0]) → va_S A s.heap H locs → ∀ (kk128 : ∀ (H : Heap) (locs : List Loc) (ls : Array Slot), lv_has ls 6 [(0, .ref h0), (4, .int o)] → va_P D vwCl (flat [WX11 cy h0 a0 s0]) H → va_D A (flat [WX11 cy h0 a0 s0]) → va_S A s.heap H locs → W p l e rmX11_farmer s m args below meth c H locs 0 0 QQ (F0 m 128 ls [])), W p l e rmX11_farmer s m args below meth c H locs 0 0 QQ (F0 m 95 ls []) := by
              intro n
              induction n with
              | zero => intro q95 o h; exact absurd h (by rw [loopO_zero]; intro z; cases z)
              | succ n ih =>
                intro q95 o h H locs ls hl hP hD hS kk128
                obtain ⟨w, h, hgo, hst⟩ := loopO_elim h
                unfold fX11_farmer_L95 at h
                refine lv_iload hx hb dX11_farmer_95 (lv_at hl 3 rfl) ?_
                refine lv_aload_n hx hb dX11_farmer_97 rfl (lv_at hl 0 rfl) ?_
                refine va_get (D := D) (ci := 11) (v := .ref (a0 0)) (C := RX11) (T := TX11) (N := 38) hx hb hts hinX11 hown hK hP 0 rfl rfl 0 (by decide) (hts (.fieldLink RX11 7 "KneeBenchModel" "at" "[I") (List.mem_of_getElem? (i := 1) rfl)) (fun _ h9 => h9) rfl dX11_farmer_98 ?_
                refine lv_iconst (v := 1) hx hb dX11_farmer_101 (by decide) ?_
                refine va_iald hx hb hK hP 1 1 rfl rfl (inb_in (by decide)) dX11_farmer_102 ?_
                refine lv_icmp_ge (tgt := 128) hx hb dX11_farmer_103 (by decide) (fun c10 => ?_) (fun c10 => ?_)
                · replace h := (if_pos c10).symm.trans h
                  have eo := hst _ (Option.some.inj h).symm
                  subst eo
                  exact kk128 H locs ls (lv_sub hl [0, 2] rfl) hP hD hS
                · replace h := (if_neg c10).symm.trans h
                  refine lv_iload hx hb dX11_farmer_106 (lv_at hl 2 rfl) ?_
                  refine lv_aload_n hx hb dX11_farmer_108 rfl (lv_at hl 0 rfl) ?_
                  refine va_get (D := D) (ci := 11) (v := .ref (a0 0)) (C := RX11) (T := TX11) (N := 38) hx hb hts hinX11 hown hK hP 0 rfl rfl 0 (by decide) (hts (.fieldLink RX11 7 "KneeBenchModel" "at" "[I") (List.mem_of_getElem? (i := 1) rfl)) (fun _ h9 => h9) rfl dX11_farmer_109 ?_
                  refine lv_iload_n hx hb dX11_farmer_112 rfl (lv_at hl 1 rfl) ?_
                  refine lv_iload hx hb dX11_farmer_113 (lv_at hl 3 rfl) ?_
                  refine ca_i (w' := [WX11 cy h0 a0 s0]) (rn_S (As := [.int p1, .int q95.2]) (rest := [.ref (a0 0), .int q95.1]) ⟨hx, hb, hml, hown, hts⟩ (kX11_twingeRow l D cy p1 q95.2 _ rfl H.size) (va_cwS 2 hts gX11_farmer_X11_twingeRow rfl rfl rfl (by decide +kernel) ⟨Nat.le_of_ble_eq_true rfl, Nat.le_of_ble_eq_true rfl⟩) hK hN hP hD [] rfl rfl rfl hl.1 rfl (Nat.le_of_ble_eq_true rfl) dX11_farmer_115 ⟨Nat.le_refl 0, Nat.le_refl 0⟩) hP hD hS hA [] ⟨rfl, rfl, rfl, rfl⟩ (fun H locs hP hD hS => ?_)
                  obtain ⟨g11, h⟩ := gd_elim h
                  refine va_iald hx hb hK hP 1 1 rfl rfl (inb_in g11) dX11_farmer_118 ?_
                  refine lv_iadd hx hb dX11_farmer_119 ?_
                  refine lv_topi (fun x12 ex12 => ?_)
                  replace h := lt_use h x12 ex12
                  refine lv_istore (lv' := [(4, .int x12), (0, .ref h0), (1, .int p1), (5, .int q95.2)]) hx hb dX11_farmer_120 hl (by decide) rfl (fun ls hl => ?_)
                  refine lv_iinc (v := (q95.2 + (1 : Int32))) (lv' := [(5, .int (q95.2 + (1 : Int32))), (4, .int x12), (0, .ref h0), (1, .int p1)]) hx hb dX11_farmer_122 hl (k := 3) rfl rfl (by decide) rfl (fun ls hl => ?_)
                  refine lv_goto (tgt := 95) hx hb dX11_farmer_125 (by decide) ?_
                  exact ih _ o (hgo _ (Option.some.inj h).symm) H locs ls (lv_sub hl [2, 3, 1, 0] rfl) hP hD hS kk128
            obtain ⟨o95, ho95, h⟩ := bd_elim h
            obtain ⟨n95, hn95⟩ := loopF_some ho95
            refine L95 n95 _ o95 hn95 H locs ls (lv_sub hl [3, 4, 1, 0] rfl) hP hD hS (fun H locs ls hl hP hD hS => ?_)
            refine lv_aload_n hx hb dX11_farmer_128 rfl (lv_at hl 0 rfl) ?_
            refine lv_iload hx hb dX11_farmer_129 (lv_at hl 1 rfl) ?_
            obtain ⟨r13, hr13, h⟩ := lt_elim h
            refine ca_i (w' := [WX11 cy h0 a0 r13.2]) (rn_V (As := [.int o95]) (rest := []) ⟨hx, hb, hml, hown, hts⟩ (kX11_gives l D cy h0 a0 s0 o95 r13 hr13.symm H.size) (cwV 1 hts gX11_farmer_X11_gives rfl rfl rfl (by decide +kernel) ⟨Nat.le_of_ble_eq_true rfl, Nat.le_of_ble_eq_true rfl⟩) hK hN hP hD [0] rfl rfl (ci := 11) (q0 := 0) rfl rfl rfl rfl hl.1 rfl (Nat.le_of_ble_eq_true rfl) dX11_farmer_131 ⟨Nat.le_refl 0, Nat.le_refl 0⟩) hP hD hS hA [0] ⟨rfl, rfl, rfl, rfl⟩ (fun H locs hP hD hS => ?_)
            exact hret 134 H locs ls (r13.1, r13.2) (Option.some.inj h) hP hD hS dX11_farmer_134
          · replace h := (if_neg c9).symm.trans h
            refine lv_aload_n hx hb dX11_farmer_76 rfl (lv_at hl 1 rfl) ?_
            refine lv_aload_n hx hb dX11_farmer_77 rfl (lv_at hl 1 rfl) ?_
            refine va_get (D := D) (ci := 11) (v := .ref (a0 0)) (C := RX11) (T := TX11) (N := 38) hx hb hts hinX11 hown hK hP 0 rfl rfl 0 (by decide) (hts (.fieldLink RX11 7 "KneeBenchModel" "at" "[I") (List.mem_of_getElem? (i := 1) rfl)) (fun _ h9 => h9) rfl dX11_farmer_78 ?_
            refine lv_iload_n hx hb dX11_farmer_81 rfl (lv_at hl 0 rfl) ?_
            refine lv_iload_n hx hb dX11_farmer_82 rfl (lv_at hl 3 rfl) ?_
            refine lv_iadd hx hb dX11_farmer_83 ?_
            obtain ⟨g14, h⟩ := gd_elim h
            refine va_iald hx hb hK hP 1 1 rfl rfl (inb_in g14) dX11_farmer_84 ?_
            obtain ⟨r15, hr15, h⟩ := lt_elim h
            refine ca_i (w' := [WX11 cy h0 a0 r15.2]) (rn_V (As := [.int (ga s0 0 (x7 + p2).toNatClampNeg)]) (rest := []) ⟨hx, hb, hml, hown, hts⟩ (kX11_gives l D cy h0 a0 s0 (ga s0 0 (x7 + p2).toNatClampNeg) r15 hr15.symm H.size) (cwV 1 hts gX11_farmer_X11_gives rfl rfl rfl (by decide +kernel) ⟨Nat.le_of_ble_eq_true rfl, Nat.le_of_ble_eq_true rfl⟩) hK hN hP hD [0] rfl rfl (ci := 11) (q0 := 0) rfl rfl rfl rfl hl.1 rfl (Nat.le_of_ble_eq_true rfl) dX11_farmer_85 ⟨Nat.le_refl 0, Nat.le_refl 0⟩) hP hD hS hA [0] ⟨rfl, rfl, rfl, rfl⟩ (fun H locs hP hD hS => ?_)
            exact hret 88 H locs ls (r15.1, r15.2) (Option.some.inj h) hP hD hS dX11_farmer_88
        · replace h := (if_pos c8).symm.trans h
          refine lv_aload_n hx hb dX11_farmer_35 rfl (lv_at hl 1 rfl) ?_
          refine va_get (D := D) (ci := 11) (v := .ref (a0 0)) (C := RX11) (T := TX11) (N := 38) hx hb hts hinX11 hown hK hP 0 rfl rfl 0 (by decide) (hts (.fieldLink RX11 7 "KneeBenchModel" "at" "[I") (List.mem_of_getElem? (i := 1) rfl)) (fun _ h9 => h9) rfl dX11_farmer_36 ?_
          refine lv_iload_n hx hb dX11_farmer_39 rfl (lv_at hl 0 rfl) ?_
          refine lv_iconst (v := 4) hx hb dX11_farmer_40 (by decide) ?_
          refine lv_iadd hx hb dX11_farmer_41 ?_
          obtain ⟨g16, h⟩ := gd_elim h
          refine va_iald hx hb hK hP 1 1 rfl rfl (inb_in g16) dX11_farmer_42 ?_
          refine lv_ldc (v := 1000000) hx hb hown (hts (.constant RX11 191 (1000000)) (List.mem_of_getElem? (i := 2) rfl)) dX11_farmer_43 ?_
          refine lv_icmp_ne (tgt := 57) hx hb dX11_farmer_45 (by decide) (fun c17 => ?_) (fun c17 => ?_)
          · replace h := (if_neg c17).symm.trans h
            refine lv_aload_n hx hb dX11_farmer_57 rfl (lv_at hl 1 rfl) ?_
            refine lv_aload_n hx hb dX11_farmer_58 rfl (lv_at hl 1 rfl) ?_
            refine va_get (D := D) (ci := 11) (v := .ref (a0 0)) (C := RX11) (T := TX11) (N := 38) hx hb hts hinX11 hown hK hP 0 rfl rfl 0 (by decide) (hts (.fieldLink RX11 7 "KneeBenchModel" "at" "[I") (List.mem_of_getElem? (i := 1) rfl)) (fun _ h9 => h9) rfl dX11_farmer_59 ?_
            refine lv_iload_n hx hb dX11_farmer_62 rfl (lv_at hl 0 rfl) ?_
            refine lv_iconst (v := 4) hx hb dX11_farmer_63 (by decide) ?_
            refine lv_iadd hx hb dX11_farmer_64 ?_
            refine va_iald hx hb hK hP 1 1 rfl rfl (inb_in g16) dX11_farmer_65 ?_
            obtain ⟨r18, hr18, h⟩ := lt_elim h
            refine ca_i (w' := [WX11 cy h0 a0 r18.2]) (rn_V (As := [.int (ga s0 0 (x7 + (4 : Int32)).toNatClampNeg)]) (rest := []) ⟨hx, hb, hml, hown, hts⟩ (kX11_gives l D cy h0 a0 s0 (ga s0 0 (x7 + (4 : Int32)).toNatClampNeg) r18 hr18.symm H.size) (cwV 1 hts gX11_farmer_X11_gives rfl rfl rfl (by decide +kernel) ⟨Nat.le_of_ble_eq_true rfl, Nat.le_of_ble_eq_true rfl⟩) hK hN hP hD [0] rfl rfl (ci := 11) (q0 := 0) rfl rfl rfl rfl hl.1 rfl (Nat.le_of_ble_eq_true rfl) dX11_farmer_66 ⟨Nat.le_refl 0, Nat.le_refl 0⟩) hP hD hS hA [0] ⟨rfl, rfl, rfl, rfl⟩ (fun H locs hP hD hS => ?_)
            exact hret 69 H locs ls (r18.1, r18.2) (Option.some.inj h) hP hD hS dX11_farmer_69
          · replace h := (if_pos c17).symm.trans h
            refine lv_aload_n hx hb dX11_farmer_48 rfl (lv_at hl 1 rfl) ?_
            refine lv_bipush (v := 6) hx hb dX11_farmer_49 (by decide) ?_
            obtain ⟨r19, hr19, h⟩ := lt_elim h
            refine ca_i (w' := [WX11 cy h0 a0 r19.2]) (rn_V (As := [.int (6 : Int32)]) (rest := []) ⟨hx, hb, hml, hown, hts⟩ (kX11_refuse l D cy h0 a0 s0 (6 : Int32) r19 hr19.symm H.size) (cwV 1 hts gX11_farmer_X11_refuse rfl rfl rfl (by decide +kernel) ⟨Nat.le_of_ble_eq_true rfl, Nat.le_of_ble_eq_true rfl⟩) hK hN hP hD [0] rfl rfl (ci := 11) (q0 := 0) rfl rfl rfl rfl hl.1 rfl (Nat.le_of_ble_eq_true rfl) dX11_farmer_51 ⟨Nat.le_refl 0, Nat.le_refl 0⟩) hP hD hS hA [0] ⟨rfl, rfl, rfl, rfl⟩ (fun H locs hP hD hS => ?_)
            refine lv_goto (tgt := 69) hx hb dX11_farmer_54 (by decide) ?_
            exact hret 69 H locs ls (r19.1, r19.2) (Option.some.inj h) hP hD hS dX11_farmer_69
      · replace h := (if_neg c6).symm.trans h
        refine lv_aload_n hx hb dX11_farmer_18 rfl (lv_at hl 0 rfl) ?_
        refine lv_iconst (v := 1) hx hb dX11_farmer_19 (by decide) ?_
        obtain ⟨r20, hr20, h⟩ := lt_elim h
        refine ca_i (w' := [WX11 cy h0 a0 r20.2]) (rn_V (As := [.int (1 : Int32)]) (rest := []) ⟨hx, hb, hml, hown, hts⟩ (kX11_refuse l D cy h0 a0 s0 (1 : Int32) r20 hr20.symm H.size) (cwV 1 hts gX11_farmer_X11_refuse rfl rfl rfl (by decide +kernel) ⟨Nat.le_of_ble_eq_true rfl, Nat.le_of_ble_eq_true rfl⟩) hK hN hP hD [0] rfl rfl (ci := 11) (q0 := 0) rfl rfl rfl rfl hl.1 rfl (Nat.le_of_ble_eq_true rfl) dX11_farmer_20 ⟨Nat.le_refl 0, Nat.le_refl 0⟩) hP hD hS hA [0] ⟨rfl, rfl, rfl, rfl⟩ (fun H locs hP hD hS => ?_)
        exact hret 23 H locs ls (r20.1, r20.2) (Option.some.inj h) hP hD hS dX11_farmer_23
theorem dX11_fault_0 : decode cX11_fault 0 = .ok (.iload_n 1, 1) := by decide +kernel
theorem dX11_fault_1 : decode cX11_fault 1 = .ok (.ifCond .ne 10, 3) := by decide +kernel
theorem dX11_fault_4 : decode cX11_fault 4 = .ok (.aload_n 0, 1) := by decide +kernel
theorem dX11_fault_5 : decode cX11_fault 5 = .ok (.getfield 37, 3) := by decide +kernel
theorem dX11_fault_8 : decode cX11_fault 8 = .ok (.goto 16, 3) := by decide +kernel
theorem dX11_fault_11 : decode cX11_fault 11 = .ok (.iload_n 1, 1) := by decide +kernel
theorem dX11_fault_12 : decode cX11_fault 12 = .ok (.iconst 1, 1) := by decide +kernel
theorem dX11_fault_13 : decode cX11_fault 13 = .ok (.if_icmp .ne 10, 3) := by decide +kernel
theorem dX11_fault_16 : decode cX11_fault 16 = .ok (.aload_n 0, 1) := by decide +kernel
theorem dX11_fault_17 : decode cX11_fault 17 = .ok (.getfield 41, 3) := by decide +kernel
theorem dX11_fault_20 : decode cX11_fault 20 = .ok (.goto 4, 3) := by decide +kernel
theorem dX11_fault_23 : decode cX11_fault 23 = .ok (.iconst (-1), 1) := by decide +kernel
theorem dX11_fault_24 : decode cX11_fault 24 = .ok (.ireturn, 1) := by decide +kernel
abbrev rmX11_fault : Room := { frames := 0, cells := 0, slots := 0, locals := 0 }
set_option maxHeartbeats 4000000 in
set_option maxRecDepth 100000 in
theorem kX11_fault (l : Launch) (D : va_G) (cy : Nat → ClassId) (h0 : Nat) (a0 : Nat → Nat) (s0 : Rc) (p1 : Int32) (res : Int32) (h : fX11_fault p1 s0 = res) : CI l D cy yX11_fault wsX11_fault rmX11_fault [.ref h0, .int p1] (flat [WX11 cy h0 a0 s0]) (flat [WX11 cy h0 a0 s0]) res := by
  refine CI.of (cc := cX11_fault) (maxL := 2) (by decide) rfl (Nat.le_of_ble_eq_true rfl) ?_
  intro p e s m args below meth c A QQ ls E hr
  obtain ⟨hx, hb, hml, hown, hts, hK, hN, hP, hD, hA, hl⟩ := E
  have hret : ∀ (pc : Nat) (H : Heap) (locs : List Loc) (ls : Array Slot) (u : Int32), u = res → va_P D vwCl (flat [WX11 cy h0 a0 s0]) H → va_D A (flat [WX11 cy h0 a0 s0]) → va_S A s.heap H locs → decode cX11_fault pc = .ok (.ireturn, 1) → W p l e rmX11_fault s m args below meth c H locs 0 0 QQ (F0 m pc ls [.int u]) := by
    intro pc H locs ls u hu hP hD hS hd; subst hu; exact hr pc H locs ls _ rfl hP hD hS hd
  clear hr
  have hl : lv_has ls 2 [(0, .ref h0), (1, .int p1)] := hl
  have hinX11 : ∀ w ∈ wsX110, w ∈ wsX11_fault := fun _ h => List.mem_cons_of_mem _ (List.mem_append_right _ h)
  unfold fX11_fault at h
  suffices key : ∀ (H : Heap) (locs : List Loc), va_P D vwCl (flat [WX11 cy h0 a0 s0]) H → va_S A s.heap H locs → W p l e rmX11_fault s m args below meth c H locs 0 0 QQ (F0 m 0 ls []) from key _ _ hP va_S.rf
  clear hP
  intro H locs hP hS
  refine lv_iload_n hx hb dX11_fault_0 rfl (lv_at hl 1 rfl) ?_
  refine lv_if_ne (tgt := 11) hx hb dX11_fault_1 (by decide) (fun c1 => ?_) (fun c1 => ?_)
  · replace h := (if_neg c1).symm.trans h
    refine lv_iload_n hx hb dX11_fault_11 rfl (lv_at hl 1 rfl) ?_
    refine lv_iconst (v := 1) hx hb dX11_fault_12 (by decide) ?_
    refine lv_icmp_ne (tgt := 23) hx hb dX11_fault_13 (by decide) (fun c2 => ?_) (fun c2 => ?_)
    · replace h := (if_neg c2).symm.trans h
      refine lv_iconst (v := -1) hx hb dX11_fault_23 (by decide) ?_
      exact hret 24 H locs ls (-1 : Int32) h hP hD hS dX11_fault_24
    · replace h := (if_pos c2).symm.trans h
      refine lv_aload_n hx hb dX11_fault_16 rfl (lv_at hl 0 rfl) ?_
      refine va_get (D := D) (ci := 11) (v := .int (gi s0 17)) (C := RX11) (T := TX11) (N := 38) hx hb hts hinX11 hown hK hP 0 rfl rfl 17 (by decide) (hts (.fieldLink RX11 41 "KneeBenchModel" "faultPlace" "I") (List.mem_of_getElem? (i := 2) rfl)) (fun _ h9 => h9) rfl dX11_fault_17 ?_
      refine lv_goto (tgt := 24) hx hb dX11_fault_20 (by decide) ?_
      exact hret 24 H locs ls (gi s0 17) h hP hD hS dX11_fault_24
  · replace h := (if_pos c1).symm.trans h
    refine lv_aload_n hx hb dX11_fault_4 rfl (lv_at hl 0 rfl) ?_
    refine va_get (D := D) (ci := 11) (v := .int (gi s0 16)) (C := RX11) (T := TX11) (N := 38) hx hb hts hinX11 hown hK hP 0 rfl rfl 16 (by decide) (hts (.fieldLink RX11 37 "KneeBenchModel" "faultKind" "I") (List.mem_of_getElem? (i := 1) rfl)) (fun _ h9 => h9) rfl dX11_fault_5 ?_
    refine lv_goto (tgt := 24) hx hb dX11_fault_8 (by decide) ?_
    exact hret 24 H locs ls (gi s0 16) h hP hD hS dX11_fault_24
theorem dX11_four_0 : decode cX11_four 0 = .ok (.bipush 24, 2) := by decide +kernel
theorem dX11_four_2 : decode cX11_four 2 = .ok (.istore_n 2, 1) := by decide +kernel
theorem dX11_four_3 : decode cX11_four 3 = .ok (.iload_n 2, 1) := by decide +kernel
theorem dX11_four_4 : decode cX11_four 4 = .ok (.ifCond .lt 32, 3) := by decide +kernel
theorem dX11_four_7 : decode cX11_four 7 = .ok (.aload_n 0, 1) := by decide +kernel
theorem dX11_four_8 : decode cX11_four 8 = .ok (.getfield 30, 3) := by decide +kernel
theorem dX11_four_11 : decode cX11_four 11 = .ok (.aload_n 0, 1) := by decide +kernel
theorem dX11_four_12 : decode cX11_four 12 = .ok (.getfield 99, 3) := by decide +kernel
theorem dX11_four_15 : decode cX11_four 15 = .ok (.iload_n 1, 1) := by decide +kernel
theorem dX11_four_16 : decode cX11_four 16 = .ok (.iload_n 2, 1) := by decide +kernel
theorem dX11_four_17 : decode cX11_four 17 = .ok (.ishr, 1) := by decide +kernel
theorem dX11_four_18 : decode cX11_four 18 = .ok (.i2b, 1) := by decide +kernel
theorem dX11_four_19 : decode cX11_four 19 = .ok (.bastore, 1) := by decide +kernel
theorem dX11_four_20 : decode cX11_four 20 = .ok (.aload_n 0, 1) := by decide +kernel
theorem dX11_four_21 : decode cX11_four 21 = .ok (.dup, 1) := by decide +kernel
theorem dX11_four_22 : decode cX11_four 22 = .ok (.getfield 99, 3) := by decide +kernel
theorem dX11_four_25 : decode cX11_four 25 = .ok (.iconst 1, 1) := by decide +kernel
theorem dX11_four_26 : decode cX11_four 26 = .ok (.iadd, 1) := by decide +kernel
theorem dX11_four_27 : decode cX11_four 27 = .ok (.putfield 99, 3) := by decide +kernel
theorem dX11_four_30 : decode cX11_four 30 = .ok (.iinc 2 (-8), 3) := by decide +kernel
theorem dX11_four_33 : decode cX11_four 33 = .ok (.goto (-30), 3) := by decide +kernel
theorem dX11_four_36 : decode cX11_four 36 = .ok (.return_, 1) := by decide +kernel
abbrev rmX11_four : Room := { frames := 0, cells := 0, slots := 0, locals := 0 }
set_option maxHeartbeats 4000000 in
set_option maxRecDepth 100000 in
theorem kX11_four (l : Launch) (D : va_G) (cy : Nat → ClassId) (h0 : Nat) (a0 : Nat → Nat) (s0 : Rc) (p1 : Int32) (res : Rc) (h : fX11_four p1 s0 = some res) : CV l D cy yX11_four wsX11_four rmX11_four [.ref h0, .int p1] (flat [WX11 cy h0 a0 s0]) (flat [WX11 cy h0 a0 res]) := by
  refine CV.of (cc := cX11_four) (maxL := 3) (by decide) rfl (Nat.le_of_ble_eq_true rfl) ?_
  intro p e s m args below meth c A QQ ls E hr
  obtain ⟨hx, hb, hml, hown, hts, hK, hN, hP, hD, hA, hl⟩ := E
  have hret : ∀ (pc : Nat) (H : Heap) (locs : List Loc) (ls : Array Slot) (u : Rc), u = res → va_P D vwCl (flat [WX11 cy h0 a0 u]) H → va_D A (flat [WX11 cy h0 a0 u]) → va_S A s.heap H locs → decode cX11_four pc = .ok (.return_, 1) → W p l e rmX11_four s m args below meth c H locs 0 0 QQ (F0 m pc ls []) := by
    intro pc H locs ls u hu hP hD hS hd; subst hu; exact hr pc H locs ls hP hD hS hd
  clear hr
  have hl : lv_has ls 3 [(0, .ref h0), (1, .int p1)] := hl
  have hinX11 : ∀ w ∈ wsX110, w ∈ wsX11_four := fun _ h => List.mem_cons_of_mem _ (List.mem_append_right _ h)
  unfold fX11_four at h
  suffices key : ∀ (H : Heap) (locs : List Loc), va_P D vwCl (flat [WX11 cy h0 a0 s0]) H → va_S A s.heap H locs → W p l e rmX11_four s m args below meth c H locs 0 0 QQ (F0 m 0 ls []) from key _ _ hP va_S.rf
  clear hP
  intro H locs hP hS
  refine lv_bipush (v := 24) hx hb dX11_four_0 (by decide) ?_
  refine lv_istore_n (lv' := [(2, .int (24 : Int32)), (0, .ref h0), (1, .int p1)]) hx hb dX11_four_2 rfl hl (by decide) rfl (fun ls hl => ?_)
  have L3 : ∀ (n : Nat) (q3 : Int32 × Rc) (o : Rc), loopO (fX11_four_L3 p1) n q3 = some o → ∀ (H : Heap) (locs : List Loc) (ls : Array Slot), lv_has ls 3 [(0, .ref h0), (1, .int p1), (2, .int q3.1)] → va_P D vwCl (flat [WX11 cy h0 a0 q3.2]) H → va_D A (flat [WX11 cy h0 a0 q3.2]) → va_S A s.heap H locs → ∀ (kk36 : ∀ (H : Heap) (locs : List Loc) (ls : Array Slot), lv_has ls 3 [] → va_P D vwCl (flat [WX11 cy h0 a0 o]) H → va_D A (flat [WX11 cy h0 a0 o]) → va_S A s.heap H locs → W p l e rmX11_four s m args below meth c H locs 0 0 QQ (F0 m 36 ls [])), W p l e rmX11_four s m args below meth c H locs 0 0 QQ (F0 m 3 ls []) := by
    intro n
    induction n with
    | zero => intro q3 o h; exact absurd h (by rw [loopO_zero]; intro z; cases z)
    | succ n ih =>
      intro q3 o h H locs ls hl hP hD hS kk36
      obtain ⟨w, h, hgo, hst⟩ := loopO_elim h
      unfold fX11_four_L3 at h
      refine lv_iload_n hx hb dX11_four_3 rfl (lv_at hl 2 rfl) ?_
      refine lv_if_lt (tgt := 36) hx hb dX11_four_4 (by decide) (fun c1 => ?_) (fun c1 => ?_)
      · replace h := (if_pos c1).symm.trans h
        have eo := hst _ (Option.some.inj h).symm
        subst eo
        exact kk36 H locs ls (lv_sub hl [] rfl) hP hD hS
      · replace h := (if_neg c1).symm.trans h
        refine lv_aload_n hx hb dX11_four_7 rfl (lv_at hl 0 rfl) ?_
        refine va_get (D := D) (ci := 11) (v := .ref (a0 8)) (C := RX11) (T := TX11) (N := 38) hx hb hts hinX11 hown hK hP 0 rfl rfl 8 (by decide) (hts (.fieldLink RX11 30 "KneeBenchModel" "tape" "[B") (List.mem_of_getElem? (i := 1) rfl)) (fun _ h9 => h9) rfl dX11_four_8 ?_
        refine lv_aload_n hx hb dX11_four_11 rfl (lv_at hl 0 rfl) ?_
        refine va_get (D := D) (ci := 11) (v := .int (gi q3.2 10)) (C := RX11) (T := TX11) (N := 38) hx hb hts hinX11 hown hK hP 0 rfl rfl 10 (by decide) (hts (.fieldLink RX11 99 "KneeBenchModel" "taped" "I") (List.mem_of_getElem? (i := 2) rfl)) (fun _ h9 => h9) rfl dX11_four_12 ?_
        refine lv_iload_n hx hb dX11_four_15 rfl (lv_at hl 1 rfl) ?_
        refine lv_iload_n hx hb dX11_four_16 rfl (lv_at hl 2 rfl) ?_
        refine lv_ishr hx hb dX11_four_17 ?_
        refine lv_i2b hx hb dX11_four_18 rfl ?_
        obtain ⟨g2, h⟩ := gd_elim h
        obtain ⟨s0_3, es, h⟩ := lt_elim h
        refine va_bast hx hb hK hP hD hS 6 0 rfl rfl (inb_in g2) dX11_four_19 (fun H locs hP hD hS => ?_)
        have hP : va_P D vwCl (flat [WX11 cy h0 a0 s0_3]) H := by rw [es]; exact hP
        have hD : va_D A (flat [WX11 cy h0 a0 s0_3]) := by rw [es]; exact hD
        clear es
        refine lv_aload_n hx hb dX11_four_20 rfl (lv_at hl 0 rfl) ?_
        refine lv_dup hx hb dX11_four_21 rfl ?_
        refine va_get (D := D) (ci := 11) (v := .int (gi s0_3 10)) (C := RX11) (T := TX11) (N := 38) hx hb hts hinX11 hown hK hP 0 rfl rfl 10 (by decide) (hts (.fieldLink RX11 99 "KneeBenchModel" "taped" "I") (List.mem_of_getElem? (i := 2) rfl)) (fun _ h9 => h9) rfl dX11_four_22 ?_
        refine lv_iconst (v := 1) hx hb dX11_four_25 (by decide) ?_
        refine lv_iadd hx hb dX11_four_26 ?_
        obtain ⟨s0_4, es, h⟩ := lt_elim h
        refine va_put (D := D) (ci := 11) (v := .int ((gi s0_3 10) + (1 : Int32))) (ty := .int) (C := RX11) (T := TX11) (N := 38) hx hb hts hinX11 tyX11 tyX11_ok nmX11 hown hK hP hD hS 0 rfl rfl 10 (by decide) (hts (.fieldLink RX11 99 "KneeBenchModel" "taped" "I") (List.mem_of_getElem? (i := 2) rfl)) (fun _ h9 => h9) rfl (by decide +kernel) rfl rfl (Nat.le_of_ble_eq_true rfl) dX11_four_27 (fun H locs hP hD hS => ?_)
        have hP : va_P D vwCl (flat [WX11 cy h0 a0 s0_4]) H := by rw [es]; exact hP
        have hD : va_D A (flat [WX11 cy h0 a0 s0_4]) := by rw [es]; exact hD
        clear es
        refine lv_iinc (v := (q3.1 + (-8 : Int32))) (lv' := [(2, .int (q3.1 + (-8 : Int32))), (0, .ref h0), (1, .int p1)]) hx hb dX11_four_30 hl (k := 2) rfl rfl (by decide) rfl (fun ls hl => ?_)
        refine lv_goto (tgt := 3) hx hb dX11_four_33 (by decide) ?_
        exact ih _ o (hgo _ (Option.some.inj h).symm) H locs ls (lv_sub hl [1, 2, 0] rfl) hP hD hS kk36
  obtain ⟨o3, ho3, h⟩ := bd_elim h
  obtain ⟨n3, hn3⟩ := loopF_some ho3
  refine L3 n3 _ o3 hn3 H locs ls (lv_sub hl [1, 2, 0] rfl) hP hD hS (fun H locs ls hl hP hD hS => ?_)
  exact hret 36 H locs ls o3 (Option.some.inj h) hP hD hS dX11_four_36
theorem gd_X11_feed : wsX11_feed.all goodWord = true := by decide +kernel
set_option maxRecDepth 20000 in
theorem ggX11_feed_X11_four : GoodIn wsX11_feed wsX11_four := goodIn_by gd_X11_feed (List.forall_mem_cons.mpr ⟨List.mem_cons_of_mem _ (List.mem_append_left _ (List.mem_of_getElem? (i := 5) rfl)), List.forall_mem_append.mpr ⟨List.forall_mem_cons.mpr ⟨List.mem_cons_of_mem _ (List.mem_append_left _ (List.mem_of_getElem? (i := 6) rfl)), List.forall_mem_cons.mpr ⟨List.mem_cons_of_mem _ (List.mem_append_left _ (List.mem_of_getElem? (i := 0) rfl)), nowords_in⟩⟩, (fun _ h => List.mem_cons_of_mem _ (List.mem_append_right _ (h)))⟩⟩)
set_option maxRecDepth 20000 in
theorem gX11_feed_X11_four : GoodIn wsX11_feed (wsV RX11 102 RX11 yX11_four wsX11_four) := goodIn_app (goodIn_by gd_X11_feed (List.forall_mem_cons.mpr ⟨List.mem_cons_of_mem _ (List.mem_append_left _ (List.mem_of_getElem? (i := 1) rfl)), List.forall_mem_cons.mpr ⟨List.mem_cons_of_mem _ (List.mem_append_left _ (List.mem_of_getElem? (i := 2) rfl)), List.forall_mem_cons.mpr ⟨List.mem_cons_of_mem _ (List.mem_append_left _ (List.mem_of_getElem? (i := 3) rfl)), List.forall_mem_cons.mpr ⟨List.mem_cons_of_mem _ (List.mem_append_left _ (List.mem_of_getElem? (i := 4) rfl)), nowords_in⟩⟩⟩⟩)) ggX11_feed_X11_four
theorem dX11_feed_0 : decode cX11_feed 0 = .ok (.aload_n 0, 1) := by decide +kernel
theorem dX11_feed_1 : decode cX11_feed 1 = .ok (.getfield 99, 3) := by decide +kernel
theorem dX11_feed_4 : decode cX11_feed 4 = .ok (.bipush 20, 2) := by decide +kernel
theorem dX11_feed_6 : decode cX11_feed 6 = .ok (.iadd, 1) := by decide +kernel
theorem dX11_feed_7 : decode cX11_feed 7 = .ok (.sipush 900, 3) := by decide +kernel
theorem dX11_feed_10 : decode cX11_feed 10 = .ok (.if_icmp .le 5, 3) := by decide +kernel
theorem dX11_feed_13 : decode cX11_feed 13 = .ok (.iconst (-1), 1) := by decide +kernel
theorem dX11_feed_14 : decode cX11_feed 14 = .ok (.ireturn, 1) := by decide +kernel
theorem dX11_feed_15 : decode cX11_feed 15 = .ok (.aload_n 0, 1) := by decide +kernel
theorem dX11_feed_16 : decode cX11_feed 16 = .ok (.iload_n 1, 1) := by decide +kernel
theorem dX11_feed_17 : decode cX11_feed 17 = .ok (.invokevirtual 102, 3) := by decide +kernel
theorem dX11_feed_20 : decode cX11_feed 20 = .ok (.aload_n 0, 1) := by decide +kernel
theorem dX11_feed_21 : decode cX11_feed 21 = .ok (.iload_n 2, 1) := by decide +kernel
theorem dX11_feed_22 : decode cX11_feed 22 = .ok (.invokevirtual 102, 3) := by decide +kernel
theorem dX11_feed_25 : decode cX11_feed 25 = .ok (.aload_n 0, 1) := by decide +kernel
theorem dX11_feed_26 : decode cX11_feed 26 = .ok (.iload_n 3, 1) := by decide +kernel
theorem dX11_feed_27 : decode cX11_feed 27 = .ok (.invokevirtual 102, 3) := by decide +kernel
theorem dX11_feed_30 : decode cX11_feed 30 = .ok (.aload_n 0, 1) := by decide +kernel
theorem dX11_feed_31 : decode cX11_feed 31 = .ok (.iload 4, 2) := by decide +kernel
theorem dX11_feed_33 : decode cX11_feed 33 = .ok (.invokevirtual 102, 3) := by decide +kernel
theorem dX11_feed_36 : decode cX11_feed 36 = .ok (.aload_n 0, 1) := by decide +kernel
theorem dX11_feed_37 : decode cX11_feed 37 = .ok (.iload 5, 2) := by decide +kernel
theorem dX11_feed_39 : decode cX11_feed 39 = .ok (.invokevirtual 102, 3) := by decide +kernel
theorem dX11_feed_42 : decode cX11_feed 42 = .ok (.aload_n 0, 1) := by decide +kernel
theorem dX11_feed_43 : decode cX11_feed 43 = .ok (.getfield 99, 3) := by decide +kernel
theorem dX11_feed_46 : decode cX11_feed 46 = .ok (.ireturn, 1) := by decide +kernel
abbrev rmX11_feed : Room := { frames := 1, cells := 0, slots := 0, locals := 22 }
set_option maxHeartbeats 4000000 in
set_option maxRecDepth 100000 in
theorem kX11_feed (l : Launch) (D : va_G) (cy : Nat → ClassId) (h0 : Nat) (a0 : Nat → Nat) (s0 : Rc) (p1 : Int32) (p2 : Int32) (p3 : Int32) (p4 : Int32) (p5 : Int32) (res : Int32 × Rc) (h : fX11_feed p1 p2 p3 p4 p5 s0 = some res) : CI l D cy yX11_feed wsX11_feed rmX11_feed [.ref h0, .int p1, .int p2, .int p3, .int p4, .int p5] (flat [WX11 cy h0 a0 s0]) (flat [WX11 cy h0 a0 res.2]) res.1 := by
  refine CI.of (cc := cX11_feed) (maxL := 6) (by decide) rfl (Nat.le_of_ble_eq_true rfl) ?_
  intro p e s m args below meth c A QQ ls E hr
  obtain ⟨hx, hb, hml, hown, hts, hK, hN, hP, hD, hA, hl⟩ := E
  have hret : ∀ (pc : Nat) (H : Heap) (locs : List Loc) (ls : Array Slot) (u : Int32 × Rc), u = res → va_P D vwCl (flat [WX11 cy h0 a0 u.2]) H → va_D A (flat [WX11 cy h0 a0 u.2]) → va_S A s.heap H locs → decode cX11_feed pc = .ok (.ireturn, 1) → W p l e rmX11_feed s m args below meth c H locs 0 0 QQ (F0 m pc ls [.int u.1]) := by
    intro pc H locs ls u hu hP hD hS hd; subst hu; exact hr pc H locs ls _ rfl hP hD hS hd
  clear hr
  have hl : lv_has ls 6 [(0, .ref h0), (1, .int p1), (2, .int p2), (3, .int p3), (4, .int p4), (5, .int p5)] := hl
  have hinX11 : ∀ w ∈ wsX110, w ∈ wsX11_feed := fun _ h => List.mem_cons_of_mem _ (List.mem_append_right _ h)
  unfold fX11_feed at h
  suffices key : ∀ (H : Heap) (locs : List Loc), va_P D vwCl (flat [WX11 cy h0 a0 s0]) H → va_S A s.heap H locs → W p l e rmX11_feed s m args below meth c H locs 0 0 QQ (F0 m 0 ls []) from key _ _ hP va_S.rf
  clear hP
  intro H locs hP hS
  refine lv_aload_n hx hb dX11_feed_0 rfl (lv_at hl 0 rfl) ?_
  refine va_get (D := D) (ci := 11) (v := .int (gi s0 10)) (C := RX11) (T := TX11) (N := 38) hx hb hts hinX11 hown hK hP 0 rfl rfl 10 (by decide) (hts (.fieldLink RX11 99 "KneeBenchModel" "taped" "I") (List.mem_of_getElem? (i := 1) rfl)) (fun _ h9 => h9) rfl dX11_feed_1 ?_
  refine lv_bipush (v := 20) hx hb dX11_feed_4 (by decide) ?_
  refine lv_iadd hx hb dX11_feed_6 ?_
  refine lv_sipush (v := 900) hx hb dX11_feed_7 (by decide) ?_
  refine lv_icmp_le (tgt := 15) hx hb dX11_feed_10 (by decide) (fun c1 => ?_) (fun c1 => ?_)
  · replace h := (if_pos c1).symm.trans h
    refine lv_aload_n hx hb dX11_feed_15 rfl (lv_at hl 0 rfl) ?_
    refine lv_iload_n hx hb dX11_feed_16 rfl (lv_at hl 1 rfl) ?_
    obtain ⟨r2, hr2, h⟩ := bd_elim h
    refine ca_v (w' := [WX11 cy h0 a0 r2]) (rn_V (As := [.int p1]) (rest := []) ⟨hx, hb, hml, hown, hts⟩ (kX11_four l D cy h0 a0 s0 p1 r2 hr2 H.size) (cwV 1 hts gX11_feed_X11_four rfl rfl rfl (by decide +kernel) ⟨Nat.le_of_ble_eq_true rfl, Nat.le_of_ble_eq_true rfl⟩) hK hN hP hD [0] rfl rfl (ci := 11) (q0 := 0) rfl rfl rfl rfl hl.1 rfl (Nat.le_of_ble_eq_true rfl) dX11_feed_17 ⟨Nat.le_refl 0, Nat.le_refl 0⟩) hP hD hS hA [0] ⟨rfl, rfl, rfl, rfl⟩ (fun H locs hP hD hS => ?_)
    refine lv_aload_n hx hb dX11_feed_20 rfl (lv_at hl 0 rfl) ?_
    refine lv_iload_n hx hb dX11_feed_21 rfl (lv_at hl 2 rfl) ?_
    obtain ⟨r3, hr3, h⟩ := bd_elim h
    refine ca_v (w' := [WX11 cy h0 a0 r3]) (rn_V (As := [.int p2]) (rest := []) ⟨hx, hb, hml, hown, hts⟩ (kX11_four l D cy h0 a0 r2 p2 r3 hr3 H.size) (cwV 1 hts gX11_feed_X11_four rfl rfl rfl (by decide +kernel) ⟨Nat.le_of_ble_eq_true rfl, Nat.le_of_ble_eq_true rfl⟩) hK hN hP hD [0] rfl rfl (ci := 11) (q0 := 0) rfl rfl rfl rfl hl.1 rfl (Nat.le_of_ble_eq_true rfl) dX11_feed_22 ⟨Nat.le_refl 0, Nat.le_refl 0⟩) hP hD hS hA [0] ⟨rfl, rfl, rfl, rfl⟩ (fun H locs hP hD hS => ?_)
    refine lv_aload_n hx hb dX11_feed_25 rfl (lv_at hl 0 rfl) ?_
    refine lv_iload_n hx hb dX11_feed_26 rfl (lv_at hl 3 rfl) ?_
    obtain ⟨r4, hr4, h⟩ := bd_elim h
    refine ca_v (w' := [WX11 cy h0 a0 r4]) (rn_V (As := [.int p3]) (rest := []) ⟨hx, hb, hml, hown, hts⟩ (kX11_four l D cy h0 a0 r3 p3 r4 hr4 H.size) (cwV 1 hts gX11_feed_X11_four rfl rfl rfl (by decide +kernel) ⟨Nat.le_of_ble_eq_true rfl, Nat.le_of_ble_eq_true rfl⟩) hK hN hP hD [0] rfl rfl (ci := 11) (q0 := 0) rfl rfl rfl rfl hl.1 rfl (Nat.le_of_ble_eq_true rfl) dX11_feed_27 ⟨Nat.le_refl 0, Nat.le_refl 0⟩) hP hD hS hA [0] ⟨rfl, rfl, rfl, rfl⟩ (fun H locs hP hD hS => ?_)
    refine lv_aload_n hx hb dX11_feed_30 rfl (lv_at hl 0 rfl) ?_
    refine lv_iload hx hb dX11_feed_31 (lv_at hl 4 rfl) ?_
    obtain ⟨r5, hr5, h⟩ := bd_elim h
    refine ca_v (w' := [WX11 cy h0 a0 r5]) (rn_V (As := [.int p4]) (rest := []) ⟨hx, hb, hml, hown, hts⟩ (kX11_four l D cy h0 a0 r4 p4 r5 hr5 H.size) (cwV 1 hts gX11_feed_X11_four rfl rfl rfl (by decide +kernel) ⟨Nat.le_of_ble_eq_true rfl, Nat.le_of_ble_eq_true rfl⟩) hK hN hP hD [0] rfl rfl (ci := 11) (q0 := 0) rfl rfl rfl rfl hl.1 rfl (Nat.le_of_ble_eq_true rfl) dX11_feed_33 ⟨Nat.le_refl 0, Nat.le_refl 0⟩) hP hD hS hA [0] ⟨rfl, rfl, rfl, rfl⟩ (fun H locs hP hD hS => ?_)
    refine lv_aload_n hx hb dX11_feed_36 rfl (lv_at hl 0 rfl) ?_
    refine lv_iload hx hb dX11_feed_37 (lv_at hl 5 rfl) ?_
    obtain ⟨r6, hr6, h⟩ := bd_elim h
    refine ca_v (w' := [WX11 cy h0 a0 r6]) (rn_V (As := [.int p5]) (rest := []) ⟨hx, hb, hml, hown, hts⟩ (kX11_four l D cy h0 a0 r5 p5 r6 hr6 H.size) (cwV 1 hts gX11_feed_X11_four rfl rfl rfl (by decide +kernel) ⟨Nat.le_of_ble_eq_true rfl, Nat.le_of_ble_eq_true rfl⟩) hK hN hP hD [0] rfl rfl (ci := 11) (q0 := 0) rfl rfl rfl rfl hl.1 rfl (Nat.le_of_ble_eq_true rfl) dX11_feed_39 ⟨Nat.le_refl 0, Nat.le_refl 0⟩) hP hD hS hA [0] ⟨rfl, rfl, rfl, rfl⟩ (fun H locs hP hD hS => ?_)
    refine lv_aload_n hx hb dX11_feed_42 rfl (lv_at hl 0 rfl) ?_
    refine va_get (D := D) (ci := 11) (v := .int (gi r6 10)) (C := RX11) (T := TX11) (N := 38) hx hb hts hinX11 hown hK hP 0 rfl rfl 10 (by decide) (hts (.fieldLink RX11 99 "KneeBenchModel" "taped" "I") (List.mem_of_getElem? (i := 1) rfl)) (fun _ h9 => h9) rfl dX11_feed_43 ?_
    exact hret 46 H locs ls ((gi r6 10), r6) (Option.some.inj h) hP hD hS dX11_feed_46
  · replace h := (if_neg c1).symm.trans h
    refine lv_iconst (v := -1) hx hb dX11_feed_13 (by decide) ?_
    exact hret 14 H locs ls ((-1 : Int32), s0) (Option.some.inj h) hP hD hS dX11_feed_14
theorem gd_X11_feel : wsX11_feel.all goodWord = true := by decide +kernel
set_option maxRecDepth 20000 in
theorem ggX11_feel_X11_isFrom : GoodIn wsX11_feel wsX11_isFrom := goodIn_by gd_X11_feel (List.forall_mem_cons.mpr ⟨List.mem_cons_of_mem _ (List.mem_append_left _ (List.mem_append_left _ (List.mem_of_getElem? (i := 5) rfl))), nowords_in⟩)
set_option maxRecDepth 20000 in
theorem gX11_feel_X11_isFrom : GoodIn wsX11_feel (va_wsS RX11 282 yX11_isFrom wsX11_isFrom) := goodIn_app (goodIn_by gd_X11_feel (List.forall_mem_cons.mpr ⟨List.mem_cons_of_mem _ (List.mem_append_left _ (List.mem_append_left _ (List.mem_of_getElem? (i := 2) rfl))), List.forall_mem_cons.mpr ⟨List.mem_cons_of_mem _ (List.mem_append_left _ (List.mem_append_left _ (List.mem_of_getElem? (i := 3) rfl))), List.forall_mem_cons.mpr ⟨List.mem_cons_of_mem _ (List.mem_append_left _ (List.mem_append_left _ (List.mem_of_getElem? (i := 4) rfl))), nowords_in⟩⟩⟩)) ggX11_feel_X11_isFrom
set_option maxRecDepth 20000 in
theorem ggX11_feel_X11_refuse : GoodIn wsX11_feel wsX11_refuse := goodIn_by gd_X11_feel (List.forall_mem_cons.mpr ⟨List.mem_cons_of_mem _ (List.mem_append_left _ (List.mem_append_left _ (List.mem_of_getElem? (i := 9) rfl))), List.forall_mem_append.mpr ⟨List.forall_mem_cons.mpr ⟨List.mem_cons_of_mem _ (List.mem_append_left _ (List.mem_append_left _ (List.mem_of_getElem? (i := 10) rfl))), nowords_in⟩, (fun _ h => List.mem_cons_of_mem _ (List.mem_append_right _ (h)))⟩⟩)
set_option maxRecDepth 20000 in
theorem gX11_feel_X11_refuse : GoodIn wsX11_feel (wsV RX11 75 RX11 yX11_refuse wsX11_refuse) := goodIn_app (goodIn_by gd_X11_feel (List.forall_mem_cons.mpr ⟨List.mem_cons_of_mem _ (List.mem_append_left _ (List.mem_append_left _ (List.mem_of_getElem? (i := 6) rfl))), List.forall_mem_cons.mpr ⟨List.mem_cons_of_mem _ (List.mem_append_left _ (List.mem_append_left _ (List.mem_of_getElem? (i := 7) rfl))), List.forall_mem_cons.mpr ⟨List.mem_cons_of_mem _ (List.mem_append_left _ (List.mem_append_left _ (List.mem_of_getElem? (i := 8) rfl))), List.forall_mem_cons.mpr ⟨List.mem_cons_of_mem _ (List.mem_append_left _ (List.mem_append_left _ (List.mem_of_getElem? (i := 4) rfl))), nowords_in⟩⟩⟩⟩)) ggX11_feel_X11_refuse
set_option maxRecDepth 20000 in
theorem ggX11_feel_X11_feels : GoodIn wsX11_feel wsX11_feels := goodIn_by gd_X11_feel (List.forall_mem_cons.mpr ⟨List.mem_cons_of_mem _ (List.mem_append_left _ (List.mem_append_left _ (List.mem_of_getElem? (i := 14) rfl))), List.forall_mem_append.mpr ⟨List.forall_mem_append.mpr ⟨List.forall_mem_cons.mpr ⟨List.mem_cons_of_mem _ (List.mem_append_left _ (List.mem_append_left _ (List.mem_of_getElem? (i := 15) rfl))), List.forall_mem_cons.mpr ⟨List.mem_cons_of_mem _ (List.mem_append_left _ (List.mem_append_left _ (List.mem_of_getElem? (i := 16) rfl))), List.forall_mem_cons.mpr ⟨List.mem_cons_of_mem _ (List.mem_append_left _ (List.mem_append_left _ (List.mem_of_getElem? (i := 17) rfl))), List.forall_mem_cons.mpr ⟨List.mem_cons_of_mem _ (List.mem_append_left _ (List.mem_append_left _ (List.mem_of_getElem? (i := 18) rfl))), List.forall_mem_cons.mpr ⟨List.mem_cons_of_mem _ (List.mem_append_left _ (List.mem_append_left _ (List.mem_of_getElem? (i := 4) rfl))), List.forall_mem_cons.mpr ⟨List.mem_cons_of_mem _ (List.mem_append_left _ (List.mem_append_left _ (List.mem_of_getElem? (i := 19) rfl))), List.forall_mem_cons.mpr ⟨List.mem_cons_of_mem _ (List.mem_append_left _ (List.mem_append_left _ (List.mem_of_getElem? (i := 1) rfl))), List.forall_mem_cons.mpr ⟨List.mem_cons_of_mem _ (List.mem_append_left _ (List.mem_append_left _ (List.mem_of_getElem? (i := 20) rfl))), List.forall_mem_cons.mpr ⟨List.mem_cons_of_mem _ (List.mem_append_left _ (List.mem_append_left _ (List.mem_of_getElem? (i := 21) rfl))), List.forall_mem_cons.mpr ⟨List.mem_cons_of_mem _ (List.mem_append_left _ (List.mem_append_left _ (List.mem_of_getElem? (i := 22) rfl))), List.forall_mem_cons.mpr ⟨List.mem_cons_of_mem _ (List.mem_append_left _ (List.mem_append_left _ (List.mem_of_getElem? (i := 23) rfl))), List.forall_mem_cons.mpr ⟨List.mem_cons_of_mem _ (List.mem_append_left _ (List.mem_append_right _ (List.mem_append_left _ (List.mem_of_getElem? (i := 0) rfl)))), List.forall_mem_cons.mpr ⟨List.mem_cons_of_mem _ (List.mem_append_left _ (List.mem_append_right _ (List.mem_append_left _ (List.mem_of_getElem? (i := 1) rfl)))), List.forall_mem_cons.mpr ⟨List.mem_cons_of_mem _ (List.mem_append_left _ (List.mem_append_right _ (List.mem_append_left _ (List.mem_of_getElem? (i := 2) rfl)))), List.forall_mem_cons.mpr ⟨List.mem_cons_of_mem _ (List.mem_append_left _ (List.mem_append_right _ (List.mem_append_left _ (List.mem_of_getElem? (i := 3) rfl)))), List.forall_mem_cons.mpr ⟨List.mem_cons_of_mem _ (List.mem_append_left _ (List.mem_append_right _ (List.mem_append_left _ (List.mem_of_getElem? (i := 4) rfl)))), List.forall_mem_cons.mpr ⟨List.mem_cons_of_mem _ (List.mem_append_left _ (List.mem_append_right _ (List.mem_append_left _ (List.mem_of_getElem? (i := 5) rfl)))), List.forall_mem_cons.mpr ⟨List.mem_cons_of_mem _ (List.mem_append_left _ (List.mem_append_right _ (List.mem_append_left _ (List.mem_of_getElem? (i := 6) rfl)))), List.forall_mem_cons.mpr ⟨List.mem_cons_of_mem _ (List.mem_append_left _ (List.mem_append_right _ (List.mem_append_left _ (List.mem_of_getElem? (i := 7) rfl)))), List.forall_mem_cons.mpr ⟨List.mem_cons_of_mem _ (List.mem_append_left _ (List.mem_append_right _ (List.mem_append_left _ (List.mem_of_getElem? (i := 8) rfl)))), List.forall_mem_cons.mpr ⟨List.mem_cons_of_mem _ (List.mem_append_left _ (List.mem_append_right _ (List.mem_append_left _ (List.mem_of_getElem? (i := 9) rfl)))), List.forall_mem_cons.mpr ⟨List.mem_cons_of_mem _ (List.mem_append_left _ (List.mem_append_right _ (List.mem_append_left _ (List.mem_of_getElem? (i := 10) rfl)))), List.forall_mem_cons.mpr ⟨List.mem_cons_of_mem _ (List.mem_append_left _ (List.mem_append_right _ (List.mem_append_left _ (List.mem_of_getElem? (i := 11) rfl)))), List.forall_mem_cons.mpr ⟨List.mem_cons_of_mem _ (List.mem_append_left _ (List.mem_append_right _ (List.mem_append_left _ (List.mem_of_getElem? (i := 12) rfl)))), nowords_in⟩⟩⟩⟩⟩⟩⟩⟩⟩⟩⟩⟩⟩⟩⟩⟩⟩⟩⟩⟩⟩⟩⟩⟩, List.forall_mem_cons.mpr ⟨List.mem_cons_of_mem _ (List.mem_append_left _ (List.mem_append_right _ (List.mem_append_left _ (List.mem_of_getElem? (i := 13) rfl)))), List.forall_mem_cons.mpr ⟨List.mem_cons_of_mem _ (List.mem_append_left _ (List.mem_append_right _ (List.mem_append_left _ (List.mem_of_getElem? (i := 14) rfl)))), List.forall_mem_cons.mpr ⟨List.mem_cons_of_mem _ (List.mem_append_left _ (List.mem_append_right _ (List.mem_append_left _ (List.mem_of_getElem? (i := 15) rfl)))), List.forall_mem_cons.mpr ⟨List.mem_cons_of_mem _ (List.mem_append_left _ (List.mem_append_right _ (List.mem_append_left _ (List.mem_of_getElem? (i := 16) rfl)))), List.forall_mem_cons.mpr ⟨List.mem_cons_of_mem _ (List.mem_append_left _ (List.mem_append_right _ (List.mem_append_left _ (List.mem_of_getElem? (i := 17) rfl)))), List.forall_mem_cons.mpr ⟨List.mem_cons_of_mem _ (List.mem_append_left _ (List.mem_append_right _ (List.mem_append_left _ (List.mem_of_getElem? (i := 18) rfl)))), List.forall_mem_cons.mpr ⟨List.mem_cons_of_mem _ (List.mem_append_left _ (List.mem_append_right _ (List.mem_append_left _ (List.mem_of_getElem? (i := 19) rfl)))), List.forall_mem_cons.mpr ⟨List.mem_cons_of_mem _ (List.mem_append_left _ (List.mem_append_right _ (List.mem_append_left _ (List.mem_of_getElem? (i := 20) rfl)))), List.forall_mem_cons.mpr ⟨List.mem_cons_of_mem _ (List.mem_append_left _ (List.mem_append_right _ (List.mem_append_left _ (List.mem_of_getElem? (i := 21) rfl)))), List.forall_mem_cons.mpr ⟨List.mem_cons_of_mem _ (List.mem_append_left _ (List.mem_append_right _ (List.mem_append_left _ (List.mem_of_getElem? (i := 22) rfl)))), nowords_in⟩⟩⟩⟩⟩⟩⟩⟩⟩⟩⟩, (fun _ h => List.mem_cons_of_mem _ (List.mem_append_right _ (h)))⟩⟩)
set_option maxRecDepth 20000 in
theorem gX11_feel_X11_feels : GoodIn wsX11_feel (wsV RX11 286 RX11 yX11_feels wsX11_feels) := goodIn_app (goodIn_by gd_X11_feel (List.forall_mem_cons.mpr ⟨List.mem_cons_of_mem _ (List.mem_append_left _ (List.mem_append_left _ (List.mem_of_getElem? (i := 11) rfl))), List.forall_mem_cons.mpr ⟨List.mem_cons_of_mem _ (List.mem_append_left _ (List.mem_append_left _ (List.mem_of_getElem? (i := 12) rfl))), List.forall_mem_cons.mpr ⟨List.mem_cons_of_mem _ (List.mem_append_left _ (List.mem_append_left _ (List.mem_of_getElem? (i := 13) rfl))), List.forall_mem_cons.mpr ⟨List.mem_cons_of_mem _ (List.mem_append_left _ (List.mem_append_left _ (List.mem_of_getElem? (i := 4) rfl))), nowords_in⟩⟩⟩⟩)) ggX11_feel_X11_feels
set_option maxRecDepth 20000 in
theorem ggX11_feel_X11_gives : GoodIn wsX11_feel wsX11_gives := goodIn_by gd_X11_feel (List.forall_mem_cons.mpr ⟨List.mem_cons_of_mem _ (List.mem_append_left _ (List.mem_append_right _ (List.mem_append_right _ (List.mem_of_getElem? (i := 2) rfl)))), List.forall_mem_append.mpr ⟨List.forall_mem_cons.mpr ⟨List.mem_cons_of_mem _ (List.mem_append_left _ (List.mem_append_left _ (List.mem_of_getElem? (i := 10) rfl))), nowords_in⟩, (fun _ h => List.mem_cons_of_mem _ (List.mem_append_right _ (h)))⟩⟩)
set_option maxRecDepth 20000 in
theorem gX11_feel_X11_gives : GoodIn wsX11_feel (wsV RX11 79 RX11 yX11_gives wsX11_gives) := goodIn_app (goodIn_by gd_X11_feel (List.forall_mem_cons.mpr ⟨List.mem_cons_of_mem _ (List.mem_append_left _ (List.mem_append_right _ (List.mem_append_left _ (List.mem_of_getElem? (i := 23) rfl)))), List.forall_mem_cons.mpr ⟨List.mem_cons_of_mem _ (List.mem_append_left _ (List.mem_append_right _ (List.mem_append_right _ (List.mem_of_getElem? (i := 0) rfl)))), List.forall_mem_cons.mpr ⟨List.mem_cons_of_mem _ (List.mem_append_left _ (List.mem_append_right _ (List.mem_append_right _ (List.mem_of_getElem? (i := 1) rfl)))), List.forall_mem_cons.mpr ⟨List.mem_cons_of_mem _ (List.mem_append_left _ (List.mem_append_left _ (List.mem_of_getElem? (i := 4) rfl))), nowords_in⟩⟩⟩⟩)) ggX11_feel_X11_gives
theorem dX11_feel_0 : decode cX11_feel 0 = .ok (.iload_n 1, 1) := by decide +kernel
theorem dX11_feel_1 : decode cX11_feel 1 = .ok (.i2l, 1) := by decide +kernel
theorem dX11_feel_2 : decode cX11_feel 2 = .ok (.lconst 0, 1) := by decide +kernel
theorem dX11_feel_3 : decode cX11_feel 3 = .ok (.ldc2_w 280, 3) := by decide +kernel
theorem dX11_feel_6 : decode cX11_feel 6 = .ok (.invokestatic 282, 3) := by decide +kernel
theorem dX11_feel_9 : decode cX11_feel 9 = .ok (.ifCond .ne 9, 3) := by decide +kernel
theorem dX11_feel_12 : decode cX11_feel 12 = .ok (.aload_n 0, 1) := by decide +kernel
theorem dX11_feel_13 : decode cX11_feel 13 = .ok (.iconst 1, 1) := by decide +kernel
theorem dX11_feel_14 : decode cX11_feel 14 = .ok (.invokevirtual 75, 3) := by decide +kernel
theorem dX11_feel_17 : decode cX11_feel 17 = .ok (.ireturn, 1) := by decide +kernel
theorem dX11_feel_18 : decode cX11_feel 18 = .ok (.aload_n 0, 1) := by decide +kernel
theorem dX11_feel_19 : decode cX11_feel 19 = .ok (.iload_n 1, 1) := by decide +kernel
theorem dX11_feel_20 : decode cX11_feel 20 = .ok (.putfield 273, 3) := by decide +kernel
theorem dX11_feel_23 : decode cX11_feel 23 = .ok (.aload_n 0, 1) := by decide +kernel
theorem dX11_feel_24 : decode cX11_feel 24 = .ok (.aload_n 0, 1) := by decide +kernel
theorem dX11_feel_25 : decode cX11_feel 25 = .ok (.invokevirtual 286, 3) := by decide +kernel
theorem dX11_feel_28 : decode cX11_feel 28 = .ok (.invokevirtual 79, 3) := by decide +kernel
theorem dX11_feel_31 : decode cX11_feel 31 = .ok (.ireturn, 1) := by decide +kernel
abbrev rmX11_feel : Room := { frames := 4, cells := 0, slots := 0, locals := 90 }
set_option maxHeartbeats 4000000 in
set_option maxRecDepth 100000 in
theorem kX11_feel (l : Launch) (D : va_G) (cy : Nat → ClassId) (h0 : Nat) (a0 : Nat → Nat) (s0 : Rc) (p1 : Int32) (res : Int32 × Rc) (h : fX11_feel p1 s0 = some res) : CI l D cy yX11_feel wsX11_feel rmX11_feel [.ref h0, .int p1] (flat [WX11 cy h0 a0 s0]) (flat [WX11 cy h0 a0 res.2]) res.1 := by
  refine CI.of (cc := cX11_feel) (maxL := 2) (by decide) rfl (Nat.le_of_ble_eq_true rfl) ?_
  intro p e s m args below meth c A QQ ls E hr
  obtain ⟨hx, hb, hml, hown, hts, hK, hN, hP, hD, hA, hl⟩ := E
  have hret : ∀ (pc : Nat) (H : Heap) (locs : List Loc) (ls : Array Slot) (u : Int32 × Rc), u = res → va_P D vwCl (flat [WX11 cy h0 a0 u.2]) H → va_D A (flat [WX11 cy h0 a0 u.2]) → va_S A s.heap H locs → decode cX11_feel pc = .ok (.ireturn, 1) → W p l e rmX11_feel s m args below meth c H locs 0 0 QQ (F0 m pc ls [.int u.1]) := by
    intro pc H locs ls u hu hP hD hS hd; subst hu; exact hr pc H locs ls _ rfl hP hD hS hd
  clear hr
  have hl : lv_has ls 2 [(0, .ref h0), (1, .int p1)] := hl
  have hinX11 : ∀ w ∈ wsX110, w ∈ wsX11_feel := fun _ h => List.mem_cons_of_mem _ (List.mem_append_right _ h)
  unfold fX11_feel at h
  suffices key : ∀ (H : Heap) (locs : List Loc), va_P D vwCl (flat [WX11 cy h0 a0 s0]) H → va_S A s.heap H locs → W p l e rmX11_feel s m args below meth c H locs 0 0 QQ (F0 m 0 ls []) from key _ _ hP va_S.rf
  clear hP
  intro H locs hP hS
  refine lv_iload_n hx hb dX11_feel_0 rfl (lv_at hl 1 rfl) ?_
  refine lv_i2l hx hb dX11_feel_1 rfl ?_
  refine lv_lconst (v := 0) hx hb dX11_feel_2 (by decide) ?_
  refine lv_ldc2 (v := 9999) hx hb hown (hts (.constantLong RX11 280 (9999)) (List.mem_of_getElem? (i := 1) rfl)) dX11_feel_3 ?_
  refine ca_z (w' := [WX11 cy h0 a0 s0]) (rn_S (As := [.long p1.toInt64, .long (0 : Int64), .long (9999 : Int64)]) (rest := []) ⟨hx, hb, hml, hown, hts⟩ (kX11_isFrom l D cy p1.toInt64 (0 : Int64) (9999 : Int64) _ rfl H.size) (va_cwS 3 hts gX11_feel_X11_isFrom rfl rfl rfl (by decide +kernel) ⟨Nat.le_of_ble_eq_true rfl, Nat.le_of_ble_eq_true rfl⟩) hK hN hP hD [] rfl rfl rfl hl.1 rfl (Nat.le_of_ble_eq_true rfl) dX11_feel_6 ⟨Nat.le_refl 0, Nat.le_refl 0⟩) hP hD hS hA [] ⟨rfl, rfl, rfl, rfl⟩ (fun b1 H locs hP hD hS => ?_)
  refine lv_if_ne (tgt := 18) hx hb dX11_feel_9 (by decide) (fun c2 => ?_) (fun c2 => ?_)
  · replace h := (if_neg c2).symm.trans h
    refine lv_aload_n hx hb dX11_feel_18 rfl (lv_at hl 0 rfl) ?_
    refine lv_iload_n hx hb dX11_feel_19 rfl (lv_at hl 1 rfl) ?_
    obtain ⟨s0_3, es, h⟩ := lt_elim h
    refine va_put (D := D) (ci := 11) (v := .int p1) (ty := .int) (C := RX11) (T := TX11) (N := 38) hx hb hts hinX11 tyX11 tyX11_ok nmX11 hown hK hP hD hS 0 rfl rfl 24 (by decide) (hts (.fieldLink RX11 273 "KneeBenchModel" "drawn" "I") (List.mem_of_getElem? (i := 2) rfl)) (fun _ h9 => h9) rfl (by decide +kernel) rfl rfl (Nat.le_of_ble_eq_true rfl) dX11_feel_20 (fun H locs hP hD hS => ?_)
    have hP : va_P D vwCl (flat [WX11 cy h0 a0 s0_3]) H := by rw [es]; exact hP
    have hD : va_D A (flat [WX11 cy h0 a0 s0_3]) := by rw [es]; exact hD
    clear es
    refine lv_aload_n hx hb dX11_feel_23 rfl (lv_at hl 0 rfl) ?_
    refine lv_aload_n hx hb dX11_feel_24 rfl (lv_at hl 0 rfl) ?_
    obtain ⟨r4, hr4, h⟩ := bd_elim h
    refine ca_i (w' := [WX11 cy h0 a0 r4.2]) (rn_V (As := []) (rest := [.ref h0]) ⟨hx, hb, hml, hown, hts⟩ (kX11_feels l D cy h0 a0 s0_3 r4 hr4 H.size) (cwV 0 hts gX11_feel_X11_feels rfl rfl rfl (by decide +kernel) ⟨Nat.le_of_ble_eq_true rfl, Nat.le_of_ble_eq_true rfl⟩) hK hN hP hD [0] rfl rfl (ci := 11) (q0 := 0) rfl rfl rfl rfl hl.1 rfl (Nat.le_of_ble_eq_true rfl) dX11_feel_25 ⟨Nat.le_refl 0, Nat.le_refl 0⟩) hP hD hS hA [0] ⟨rfl, rfl, rfl, rfl⟩ (fun H locs hP hD hS => ?_)
    obtain ⟨r5, hr5, h⟩ := lt_elim h
    refine ca_i (w' := [WX11 cy h0 a0 r5.2]) (rn_V (As := [.int r4.1]) (rest := []) ⟨hx, hb, hml, hown, hts⟩ (kX11_gives l D cy h0 a0 r4.2 r4.1 r5 hr5.symm H.size) (cwV 1 hts gX11_feel_X11_gives rfl rfl rfl (by decide +kernel) ⟨Nat.le_of_ble_eq_true rfl, Nat.le_of_ble_eq_true rfl⟩) hK hN hP hD [0] rfl rfl (ci := 11) (q0 := 0) rfl rfl rfl rfl hl.1 rfl (Nat.le_of_ble_eq_true rfl) dX11_feel_28 ⟨Nat.le_refl 0, Nat.le_refl 0⟩) hP hD hS hA [0] ⟨rfl, rfl, rfl, rfl⟩ (fun H locs hP hD hS => ?_)
    exact hret 31 H locs ls (r5.1, r5.2) (Option.some.inj h) hP hD hS dX11_feel_31
  · replace h := (if_pos c2).symm.trans h
    refine lv_aload_n hx hb dX11_feel_12 rfl (lv_at hl 0 rfl) ?_
    refine lv_iconst (v := 1) hx hb dX11_feel_13 (by decide) ?_
    obtain ⟨r6, hr6, h⟩ := lt_elim h
    refine ca_i (w' := [WX11 cy h0 a0 r6.2]) (rn_V (As := [.int (1 : Int32)]) (rest := []) ⟨hx, hb, hml, hown, hts⟩ (kX11_refuse l D cy h0 a0 s0 (1 : Int32) r6 hr6.symm H.size) (cwV 1 hts gX11_feel_X11_refuse rfl rfl rfl (by decide +kernel) ⟨Nat.le_of_ble_eq_true rfl, Nat.le_of_ble_eq_true rfl⟩) hK hN hP hD [0] rfl rfl (ci := 11) (q0 := 0) rfl rfl rfl rfl hl.1 rfl (Nat.le_of_ble_eq_true rfl) dX11_feel_14 ⟨Nat.le_refl 0, Nat.le_refl 0⟩) hP hD hS hA [0] ⟨rfl, rfl, rfl, rfl⟩ (fun H locs hP hD hS => ?_)
    exact hret 17 H locs ls (r6.1, r6.2) (Option.some.inj h) hP hD hS dX11_feel_17
theorem gd_X11_orNone : wsX11_orNone.all goodWord = true := by decide +kernel
set_option maxRecDepth 20000 in
theorem ggX11_orNone_X11_refuse : GoodIn wsX11_orNone wsX11_refuse := goodIn_by gd_X11_orNone (List.forall_mem_cons.mpr ⟨List.mem_cons_of_mem _ (List.mem_append_left _ (List.mem_of_getElem? (i := 4) rfl)), List.forall_mem_append.mpr ⟨List.forall_mem_cons.mpr ⟨List.mem_cons_of_mem _ (List.mem_append_left _ (List.mem_of_getElem? (i := 5) rfl)), nowords_in⟩, (fun _ h => List.mem_cons_of_mem _ (List.mem_append_right _ (h)))⟩⟩)
set_option maxRecDepth 20000 in
theorem gX11_orNone_X11_refuse : GoodIn wsX11_orNone (wsV RX11 75 RX11 yX11_refuse wsX11_refuse) := goodIn_app (goodIn_by gd_X11_orNone (List.forall_mem_cons.mpr ⟨List.mem_cons_of_mem _ (List.mem_append_left _ (List.mem_of_getElem? (i := 0) rfl)), List.forall_mem_cons.mpr ⟨List.mem_cons_of_mem _ (List.mem_append_left _ (List.mem_of_getElem? (i := 1) rfl)), List.forall_mem_cons.mpr ⟨List.mem_cons_of_mem _ (List.mem_append_left _ (List.mem_of_getElem? (i := 2) rfl)), List.forall_mem_cons.mpr ⟨List.mem_cons_of_mem _ (List.mem_append_left _ (List.mem_of_getElem? (i := 3) rfl)), nowords_in⟩⟩⟩⟩)) ggX11_orNone_X11_refuse
set_option maxRecDepth 20000 in
theorem ggX11_orNone_X11_gives : GoodIn wsX11_orNone wsX11_gives := goodIn_by gd_X11_orNone (List.forall_mem_cons.mpr ⟨List.mem_cons_of_mem _ (List.mem_append_left _ (List.mem_of_getElem? (i := 9) rfl)), List.forall_mem_append.mpr ⟨List.forall_mem_cons.mpr ⟨List.mem_cons_of_mem _ (List.mem_append_left _ (List.mem_of_getElem? (i := 5) rfl)), nowords_in⟩, (fun _ h => List.mem_cons_of_mem _ (List.mem_append_right _ (h)))⟩⟩)
set_option maxRecDepth 20000 in
theorem gX11_orNone_X11_gives : GoodIn wsX11_orNone (wsV RX11 79 RX11 yX11_gives wsX11_gives) := goodIn_app (goodIn_by gd_X11_orNone (List.forall_mem_cons.mpr ⟨List.mem_cons_of_mem _ (List.mem_append_left _ (List.mem_of_getElem? (i := 6) rfl)), List.forall_mem_cons.mpr ⟨List.mem_cons_of_mem _ (List.mem_append_left _ (List.mem_of_getElem? (i := 7) rfl)), List.forall_mem_cons.mpr ⟨List.mem_cons_of_mem _ (List.mem_append_left _ (List.mem_of_getElem? (i := 8) rfl)), List.forall_mem_cons.mpr ⟨List.mem_cons_of_mem _ (List.mem_append_left _ (List.mem_of_getElem? (i := 3) rfl)), nowords_in⟩⟩⟩⟩)) ggX11_orNone_X11_gives
theorem dX11_orNone_0 : decode cX11_orNone 0 = .ok (.iload_n 1, 1) := by decide +kernel
theorem dX11_orNone_1 : decode cX11_orNone 1 = .ok (.iconst (-1), 1) := by decide +kernel
theorem dX11_orNone_2 : decode cX11_orNone 2 = .ok (.if_icmp .ne 12, 3) := by decide +kernel
theorem dX11_orNone_5 : decode cX11_orNone 5 = .ok (.aload_n 0, 1) := by decide +kernel
theorem dX11_orNone_6 : decode cX11_orNone 6 = .ok (.bipush 6, 2) := by decide +kernel
theorem dX11_orNone_8 : decode cX11_orNone 8 = .ok (.invokevirtual 75, 3) := by decide +kernel
theorem dX11_orNone_11 : decode cX11_orNone 11 = .ok (.goto 8, 3) := by decide +kernel
theorem dX11_orNone_14 : decode cX11_orNone 14 = .ok (.aload_n 0, 1) := by decide +kernel
theorem dX11_orNone_15 : decode cX11_orNone 15 = .ok (.iload_n 1, 1) := by decide +kernel
theorem dX11_orNone_16 : decode cX11_orNone 16 = .ok (.invokevirtual 79, 3) := by decide +kernel
theorem dX11_orNone_19 : decode cX11_orNone 19 = .ok (.ireturn, 1) := by decide +kernel
abbrev rmX11_orNone : Room := { frames := 1, cells := 0, slots := 0, locals := 21 }
set_option maxHeartbeats 4000000 in
set_option maxRecDepth 100000 in
theorem kX11_orNone (l : Launch) (D : va_G) (cy : Nat → ClassId) (h0 : Nat) (a0 : Nat → Nat) (s0 : Rc) (p1 : Int32) (res : Int32 × Rc) (h : fX11_orNone p1 s0 = res) : CI l D cy yX11_orNone wsX11_orNone rmX11_orNone [.ref h0, .int p1] (flat [WX11 cy h0 a0 s0]) (flat [WX11 cy h0 a0 res.2]) res.1 := by
  refine CI.of (cc := cX11_orNone) (maxL := 2) (by decide) rfl (Nat.le_of_ble_eq_true rfl) ?_
  intro p e s m args below meth c A QQ ls E hr
  obtain ⟨hx, hb, hml, hown, hts, hK, hN, hP, hD, hA, hl⟩ := E
  have hret : ∀ (pc : Nat) (H : Heap) (locs : List Loc) (ls : Array Slot) (u : Int32 × Rc), u = res → va_P D vwCl (flat [WX11 cy h0 a0 u.2]) H → va_D A (flat [WX11 cy h0 a0 u.2]) → va_S A s.heap H locs → decode cX11_orNone pc = .ok (.ireturn, 1) → W p l e rmX11_orNone s m args below meth c H locs 0 0 QQ (F0 m pc ls [.int u.1]) := by
    intro pc H locs ls u hu hP hD hS hd; subst hu; exact hr pc H locs ls _ rfl hP hD hS hd
  clear hr
  have hl : lv_has ls 2 [(0, .ref h0), (1, .int p1)] := hl
  unfold fX11_orNone at h
  suffices key : ∀ (H : Heap) (locs : List Loc), va_P D vwCl (flat [WX11 cy h0 a0 s0]) H → va_S A s.heap H locs → W p l e rmX11_orNone s m args below meth c H locs 0 0 QQ (F0 m 0 ls []) from key _ _ hP va_S.rf
  clear hP
  intro H locs hP hS
  refine lv_iload_n hx hb dX11_orNone_0 rfl (lv_at hl 1 rfl) ?_
  refine lv_iconst (v := -1) hx hb dX11_orNone_1 (by decide) ?_
  refine lv_icmp_ne (tgt := 14) hx hb dX11_orNone_2 (by decide) (fun c1 => ?_) (fun c1 => ?_)
  · replace h := (if_neg c1).symm.trans h
    refine lv_aload_n hx hb dX11_orNone_14 rfl (lv_at hl 0 rfl) ?_
    refine lv_iload_n hx hb dX11_orNone_15 rfl (lv_at hl 1 rfl) ?_
    obtain ⟨r2, hr2, h⟩ := lt_elim h
    refine ca_i (w' := [WX11 cy h0 a0 r2.2]) (rn_V (As := [.int p1]) (rest := []) ⟨hx, hb, hml, hown, hts⟩ (kX11_gives l D cy h0 a0 s0 p1 r2 hr2.symm H.size) (cwV 1 hts gX11_orNone_X11_gives rfl rfl rfl (by decide +kernel) ⟨Nat.le_of_ble_eq_true rfl, Nat.le_of_ble_eq_true rfl⟩) hK hN hP hD [0] rfl rfl (ci := 11) (q0 := 0) rfl rfl rfl rfl hl.1 rfl (Nat.le_of_ble_eq_true rfl) dX11_orNone_16 ⟨Nat.le_refl 0, Nat.le_refl 0⟩) hP hD hS hA [0] ⟨rfl, rfl, rfl, rfl⟩ (fun H locs hP hD hS => ?_)
    exact hret 19 H locs ls (r2.1, r2.2) h hP hD hS dX11_orNone_19
  · replace h := (if_pos c1).symm.trans h
    refine lv_aload_n hx hb dX11_orNone_5 rfl (lv_at hl 0 rfl) ?_
    refine lv_bipush (v := 6) hx hb dX11_orNone_6 (by decide) ?_
    obtain ⟨r3, hr3, h⟩ := lt_elim h
    refine ca_i (w' := [WX11 cy h0 a0 r3.2]) (rn_V (As := [.int (6 : Int32)]) (rest := []) ⟨hx, hb, hml, hown, hts⟩ (kX11_refuse l D cy h0 a0 s0 (6 : Int32) r3 hr3.symm H.size) (cwV 1 hts gX11_orNone_X11_refuse rfl rfl rfl (by decide +kernel) ⟨Nat.le_of_ble_eq_true rfl, Nat.le_of_ble_eq_true rfl⟩) hK hN hP hD [0] rfl rfl (ci := 11) (q0 := 0) rfl rfl rfl rfl hl.1 rfl (Nat.le_of_ble_eq_true rfl) dX11_orNone_8 ⟨Nat.le_refl 0, Nat.le_refl 0⟩) hP hD hS hA [0] ⟨rfl, rfl, rfl, rfl⟩ (fun H locs hP hD hS => ?_)
    refine lv_goto (tgt := 19) hx hb dX11_orNone_11 (by decide) ?_
    exact hret 19 H locs ls (r3.1, r3.2) h hP hD hS dX11_orNone_19
theorem gd_X11_fever : wsX11_fever.all goodWord = true := by decide +kernel
set_option maxRecDepth 20000 in
theorem ggX11_fever_X11_twingeRow : GoodIn wsX11_fever wsX11_twingeRow := goodIn_by gd_X11_fever (List.forall_mem_cons.mpr ⟨List.mem_cons_of_mem _ (List.mem_append_left _ (List.mem_of_getElem? (i := 4) rfl)), nowords_in⟩)
set_option maxRecDepth 20000 in
theorem gX11_fever_X11_twingeRow : GoodIn wsX11_fever (va_wsS RX11 225 yX11_twingeRow wsX11_twingeRow) := goodIn_app (goodIn_by gd_X11_fever (List.forall_mem_cons.mpr ⟨List.mem_cons_of_mem _ (List.mem_append_left _ (List.mem_of_getElem? (i := 1) rfl)), List.forall_mem_cons.mpr ⟨List.mem_cons_of_mem _ (List.mem_append_left _ (List.mem_of_getElem? (i := 2) rfl)), List.forall_mem_cons.mpr ⟨List.mem_cons_of_mem _ (List.mem_append_left _ (List.mem_of_getElem? (i := 3) rfl)), nowords_in⟩⟩⟩)) ggX11_fever_X11_twingeRow
set_option maxRecDepth 20000 in
theorem ggX11_fever_X11_orNone : GoodIn wsX11_fever wsX11_orNone := goodIn_by gd_X11_fever (List.forall_mem_cons.mpr ⟨List.mem_cons_of_mem _ (List.mem_append_left _ (List.mem_of_getElem? (i := 8) rfl)), List.forall_mem_append.mpr ⟨List.forall_mem_cons.mpr ⟨List.mem_cons_of_mem _ (List.mem_append_left _ (List.mem_of_getElem? (i := 9) rfl)), List.forall_mem_cons.mpr ⟨List.mem_cons_of_mem _ (List.mem_append_left _ (List.mem_of_getElem? (i := 10) rfl)), List.forall_mem_cons.mpr ⟨List.mem_cons_of_mem _ (List.mem_append_left _ (List.mem_of_getElem? (i := 11) rfl)), List.forall_mem_cons.mpr ⟨List.mem_cons_of_mem _ (List.mem_append_left _ (List.mem_of_getElem? (i := 3) rfl)), List.forall_mem_cons.mpr ⟨List.mem_cons_of_mem _ (List.mem_append_left _ (List.mem_of_getElem? (i := 12) rfl)), List.forall_mem_cons.mpr ⟨List.mem_cons_of_mem _ (List.mem_append_left _ (List.mem_of_getElem? (i := 13) rfl)), List.forall_mem_cons.mpr ⟨List.mem_cons_of_mem _ (List.mem_append_left _ (List.mem_of_getElem? (i := 14) rfl)), List.forall_mem_cons.mpr ⟨List.mem_cons_of_mem _ (List.mem_append_left _ (List.mem_of_getElem? (i := 15) rfl)), List.forall_mem_cons.mpr ⟨List.mem_cons_of_mem _ (List.mem_append_left _ (List.mem_of_getElem? (i := 16) rfl)), List.forall_mem_cons.mpr ⟨List.mem_cons_of_mem _ (List.mem_append_left _ (List.mem_of_getElem? (i := 17) rfl)), nowords_in⟩⟩⟩⟩⟩⟩⟩⟩⟩⟩, (fun _ h => List.mem_cons_of_mem _ (List.mem_append_right _ (h)))⟩⟩)
set_option maxRecDepth 20000 in
theorem gX11_fever_X11_orNone : GoodIn wsX11_fever (wsV RX11 310 RX11 yX11_orNone wsX11_orNone) := goodIn_app (goodIn_by gd_X11_fever (List.forall_mem_cons.mpr ⟨List.mem_cons_of_mem _ (List.mem_append_left _ (List.mem_of_getElem? (i := 5) rfl)), List.forall_mem_cons.mpr ⟨List.mem_cons_of_mem _ (List.mem_append_left _ (List.mem_of_getElem? (i := 6) rfl)), List.forall_mem_cons.mpr ⟨List.mem_cons_of_mem _ (List.mem_append_left _ (List.mem_of_getElem? (i := 7) rfl)), List.forall_mem_cons.mpr ⟨List.mem_cons_of_mem _ (List.mem_append_left _ (List.mem_of_getElem? (i := 3) rfl)), nowords_in⟩⟩⟩⟩)) ggX11_fever_X11_orNone
theorem dX11_fever_0 : decode cX11_fever 0 = .ok (.iconst (-1), 1) := by decide +kernel
theorem dX11_fever_1 : decode cX11_fever 1 = .ok (.istore_n 1, 1) := by decide +kernel
theorem dX11_fever_2 : decode cX11_fever 2 = .ok (.iconst (-1), 1) := by decide +kernel
theorem dX11_fever_3 : decode cX11_fever 3 = .ok (.istore_n 2, 1) := by decide +kernel
theorem dX11_fever_4 : decode cX11_fever 4 = .ok (.iconst 0, 1) := by decide +kernel
theorem dX11_fever_5 : decode cX11_fever 5 = .ok (.istore_n 3, 1) := by decide +kernel
theorem dX11_fever_6 : decode cX11_fever 6 = .ok (.iload_n 3, 1) := by decide +kernel
theorem dX11_fever_7 : decode cX11_fever 7 = .ok (.aload_n 0, 1) := by decide +kernel
theorem dX11_fever_8 : decode cX11_fever 8 = .ok (.getfield 7, 3) := by decide +kernel
theorem dX11_fever_11 : decode cX11_fever 11 = .ok (.iconst 1, 1) := by decide +kernel
theorem dX11_fever_12 : decode cX11_fever 12 = .ok (.iaload, 1) := by decide +kernel
theorem dX11_fever_13 : decode cX11_fever 13 = .ok (.if_icmp .ge 62, 3) := by decide +kernel
theorem dX11_fever_16 : decode cX11_fever 16 = .ok (.iconst 0, 1) := by decide +kernel
theorem dX11_fever_17 : decode cX11_fever 17 = .ok (.istore 4, 2) := by decide +kernel
theorem dX11_fever_19 : decode cX11_fever 19 = .ok (.iconst 0, 1) := by decide +kernel
theorem dX11_fever_20 : decode cX11_fever 20 = .ok (.istore 5, 2) := by decide +kernel
theorem dX11_fever_22 : decode cX11_fever 22 = .ok (.iload 5, 2) := by decide +kernel
theorem dX11_fever_24 : decode cX11_fever 24 = .ok (.aload_n 0, 1) := by decide +kernel
theorem dX11_fever_25 : decode cX11_fever 25 = .ok (.getfield 7, 3) := by decide +kernel
theorem dX11_fever_28 : decode cX11_fever 28 = .ok (.iconst 0, 1) := by decide +kernel
theorem dX11_fever_29 : decode cX11_fever 29 = .ok (.iaload, 1) := by decide +kernel
theorem dX11_fever_30 : decode cX11_fever 30 = .ok (.if_icmp .ge 25, 3) := by decide +kernel
theorem dX11_fever_33 : decode cX11_fever 33 = .ok (.iload 4, 2) := by decide +kernel
theorem dX11_fever_35 : decode cX11_fever 35 = .ok (.aload_n 0, 1) := by decide +kernel
theorem dX11_fever_36 : decode cX11_fever 36 = .ok (.getfield 7, 3) := by decide +kernel
theorem dX11_fever_39 : decode cX11_fever 39 = .ok (.iload 5, 2) := by decide +kernel
theorem dX11_fever_41 : decode cX11_fever 41 = .ok (.iload_n 3, 1) := by decide +kernel
theorem dX11_fever_42 : decode cX11_fever 42 = .ok (.invokestatic 225, 3) := by decide +kernel
theorem dX11_fever_45 : decode cX11_fever 45 = .ok (.iaload, 1) := by decide +kernel
theorem dX11_fever_46 : decode cX11_fever 46 = .ok (.iadd, 1) := by decide +kernel
theorem dX11_fever_47 : decode cX11_fever 47 = .ok (.istore 4, 2) := by decide +kernel
theorem dX11_fever_49 : decode cX11_fever 49 = .ok (.iinc 5 1, 3) := by decide +kernel
theorem dX11_fever_52 : decode cX11_fever 52 = .ok (.goto (-30), 3) := by decide +kernel
theorem dX11_fever_55 : decode cX11_fever 55 = .ok (.iload 4, 2) := by decide +kernel
theorem dX11_fever_57 : decode cX11_fever 57 = .ok (.iload_n 2, 1) := by decide +kernel
theorem dX11_fever_58 : decode cX11_fever 58 = .ok (.if_icmp .gt 6, 3) := by decide +kernel
theorem dX11_fever_61 : decode cX11_fever 61 = .ok (.goto 8, 3) := by decide +kernel
theorem dX11_fever_64 : decode cX11_fever 64 = .ok (.iload 4, 2) := by decide +kernel
theorem dX11_fever_66 : decode cX11_fever 66 = .ok (.istore_n 2, 1) := by decide +kernel
theorem dX11_fever_67 : decode cX11_fever 67 = .ok (.iload_n 3, 1) := by decide +kernel
theorem dX11_fever_68 : decode cX11_fever 68 = .ok (.istore_n 1, 1) := by decide +kernel
theorem dX11_fever_69 : decode cX11_fever 69 = .ok (.iinc 3 1, 3) := by decide +kernel
theorem dX11_fever_72 : decode cX11_fever 72 = .ok (.goto (-66), 3) := by decide +kernel
theorem dX11_fever_75 : decode cX11_fever 75 = .ok (.aload_n 0, 1) := by decide +kernel
theorem dX11_fever_76 : decode cX11_fever 76 = .ok (.iload_n 1, 1) := by decide +kernel
theorem dX11_fever_77 : decode cX11_fever 77 = .ok (.invokevirtual 310, 3) := by decide +kernel
theorem dX11_fever_80 : decode cX11_fever 80 = .ok (.ireturn, 1) := by decide +kernel
abbrev rmX11_fever : Room := { frames := 2, cells := 0, slots := 0, locals := 42 }
set_option maxHeartbeats 4000000 in
set_option maxRecDepth 100000 in
theorem kX11_fever (l : Launch) (D : va_G) (cy : Nat → ClassId) (h0 : Nat) (a0 : Nat → Nat) (s0 : Rc) (res : Int32 × Rc) (h : fX11_fever s0 = some res) : CI l D cy yX11_fever wsX11_fever rmX11_fever [.ref h0] (flat [WX11 cy h0 a0 s0]) (flat [WX11 cy h0 a0 res.2]) res.1 := by
  refine CI.of (cc := cX11_fever) (maxL := 6) (by decide) rfl (Nat.le_of_ble_eq_true rfl) ?_
  intro p e s m args below meth c A QQ ls E hr
  obtain ⟨hx, hb, hml, hown, hts, hK, hN, hP, hD, hA, hl⟩ := E
  have hret : ∀ (pc : Nat) (H : Heap) (locs : List Loc) (ls : Array Slot) (u : Int32 × Rc), u = res → va_P D vwCl (flat [WX11 cy h0 a0 u.2]) H → va_D A (flat [WX11 cy h0 a0 u.2]) → va_S A s.heap H locs → decode cX11_fever pc = .ok (.ireturn, 1) → W p l e rmX11_fever s m args below meth c H locs 0 0 QQ (F0 m pc ls [.int u.1]) := by
    intro pc H locs ls u hu hP hD hS hd; subst hu; exact hr pc H locs ls _ rfl hP hD hS hd
  clear hr
  have hl : lv_has ls 6 [(0, .ref h0)] := hl
  have hinX11 : ∀ w ∈ wsX110, w ∈ wsX11_fever := fun _ h => List.mem_cons_of_mem _ (List.mem_append_right _ h)
  unfold fX11_fever at h
  suffices key : ∀ (H : Heap) (locs : List Loc), va_P D vwCl (flat [WX11 cy h0 a0 s0]) H → va_S A s.heap H locs → W p l e rmX11_fever s m args below meth c H locs 0 0 QQ (F0 m 0 ls []) from key _ _ hP va_S.rf
  clear hP
  intro H locs hP hS
  refine lv_iconst (v := -1) hx hb dX11_fever_0 (by decide) ?_
  refine lv_istore_n (lv' := [(1, .int (-1 : Int32)), (0, .ref h0)]) hx hb dX11_fever_1 rfl hl (by decide) rfl (fun ls hl => ?_)
  refine lv_iconst (v := -1) hx hb dX11_fever_2 (by decide) ?_
  refine lv_istore_n (lv' := [(2, .int (-1 : Int32)), (1, .int (-1 : Int32)), (0, .ref h0)]) hx hb dX11_fever_3 rfl hl (by decide) rfl (fun ls hl => ?_)
  refine lv_iconst (v := 0) hx hb dX11_fever_4 (by decide) ?_
  refine lv_istore_n (lv' := [(3, .int (0 : Int32)), (2, .int (-1 : Int32)), (1, .int (-1 : Int32)), (0, .ref h0)]) hx hb dX11_fever_5 rfl hl (by decide) rfl (fun ls hl => ?_)
  have L6 : ∀ (n : Nat) (q6 : Int32 × Int32 × Int32) (o : Int32), loopO (fX11_fever_L6 s0) n q6 = some o → ∀ (H : Heap) (locs : List Loc) (ls : Array Slot), lv_has ls 6 [(0, .ref h0), (1, .int q6.1), (2, .int q6.2.1), (3, .int q6.2.2)] → va_P D vwCl (flat [WX11 cy h0 a0 s0]) H → va_D A (flat [WX11 cy h0 a0 s0]) → va_S A s.heap H locs → ∀ (kk75 : ∀ (H : Heap) (locs : List Loc) (ls : Array Slot), lv_has ls 6 [(0, .ref h0), (1, .int o)] → va_P D vwCl (flat [WX11 cy h0 a0 s0]) H → va_D A (flat [WX11 cy h0 a0 s0]) → va_S A s.heap H locs → W p l e rmX11_fever s m args below meth c H locs 0 0 QQ (F0 m 75 ls [])), W p l e rmX11_fever s m args below meth c H locs 0 0 QQ (F0 m 6 ls []) := by
    intro n
    induction n with
    | zero => intro q6 o h; exact absurd h (by rw [loopO_zero]; intro z; cases z)
    | succ n ih =>
      intro q6 o h H locs ls hl hP hD hS kk75
      obtain ⟨w, h, hgo, hst⟩ := loopO_elim h
      unfold fX11_fever_L6 at h
      refine lv_iload_n hx hb dX11_fever_6 rfl (lv_at hl 3 rfl) ?_
      refine lv_aload_n hx hb dX11_fever_7 rfl (lv_at hl 0 rfl) ?_
      refine va_get (D := D) (ci := 11) (v := .ref (a0 0)) (C := RX11) (T := TX11) (N := 38) hx hb hts hinX11 hown hK hP 0 rfl rfl 0 (by decide) (hts (.fieldLink RX11 7 "KneeBenchModel" "at" "[I") (List.mem_of_getElem? (i := 1) rfl)) (fun _ h9 => h9) rfl dX11_fever_8 ?_
      refine lv_iconst (v := 1) hx hb dX11_fever_11 (by decide) ?_
      refine va_iald hx hb hK hP 1 1 rfl rfl (inb_in (by decide)) dX11_fever_12 ?_
      refine lv_icmp_ge (tgt := 75) hx hb dX11_fever_13 (by decide) (fun c1 => ?_) (fun c1 => ?_)
      · replace h := (if_pos c1).symm.trans h
        have eo := hst _ (Option.some.inj h).symm
        subst eo
        exact kk75 H locs ls (lv_sub hl [0, 1] rfl) hP hD hS
      · replace h := (if_neg c1).symm.trans h
        refine lv_iconst (v := 0) hx hb dX11_fever_16 (by decide) ?_
        refine lv_istore (lv' := [(4, .int (0 : Int32)), (0, .ref h0), (1, .int q6.1), (2, .int q6.2.1), (3, .int q6.2.2)]) hx hb dX11_fever_17 hl (by decide) rfl (fun ls hl => ?_)
        refine lv_iconst (v := 0) hx hb dX11_fever_19 (by decide) ?_
        refine lv_istore (lv' := [(5, .int (0 : Int32)), (4, .int (0 : Int32)), (0, .ref h0), (1, .int q6.1), (2, .int q6.2.1), (3, .int q6.2.2)]) hx hb dX11_fever_20 hl (by decide) rfl (fun ls hl => ?_)
        have L22 : ∀ (n : Nat) (q22 : Int32 × Int32) (o : Int32), loopO (fX11_fever_L22 s0 q6) n q22 = some o → ∀ (H : Heap) (locs : List Loc) (ls : Array Slot), lv_has ls 6 [(0, .ref h0), (1, .int q6.1), (2, .int q6.2.1), (3, .int q6.2.2), (4, .int q22.1), (5, .int q22.2)] → va_P D vwCl (flat [WX11 cy h0 a0 s0]) H → va_D A (flat [WX11 cy h0 a0 s0]) → va_S A s.heap H locs → ∀ (kk55 : ∀ (H : Heap) (locs : List Loc) (ls : Array Slot), lv_has ls 6 [(0, .ref h0), (1, .int q6.1), (2, .int q6.2.1), (3, .int q6.2.2), (4, .int o)] → va_P D vwCl (flat [WX11 cy h0 a0 s0]) H → va_D A (flat [WX11 cy h0 a0 s0]) → va_S A s.heap H locs → W p l e rmX11_fever s m args below meth c H locs 0 0 QQ (F0 m 55 ls [])), W p l e rmX11_fever s m args below meth c H locs 0 0 QQ (F0 m 22 ls []) := by
          intro n
          induction n with
          | zero => intro q22 o h; exact absurd h (by rw [loopO_zero]; intro z; cases z)
          | succ n ih =>
            intro q22 o h H locs ls hl hP hD hS kk55
            obtain ⟨w, h, hgo, hst⟩ := loopO_elim h
            unfold fX11_fever_L22 at h
            refine lv_iload hx hb dX11_fever_22 (lv_at hl 5 rfl) ?_
            refine lv_aload_n hx hb dX11_fever_24 rfl (lv_at hl 0 rfl) ?_
            refine va_get (D := D) (ci := 11) (v := .ref (a0 0)) (C := RX11) (T := TX11) (N := 38) hx hb hts hinX11 hown hK hP 0 rfl rfl 0 (by decide) (hts (.fieldLink RX11 7 "KneeBenchModel" "at" "[I") (List.mem_of_getElem? (i := 1) rfl)) (fun _ h9 => h9) rfl dX11_fever_25 ?_
            refine lv_iconst (v := 0) hx hb dX11_fever_28 (by decide) ?_
            refine va_iald hx hb hK hP 1 1 rfl rfl (inb_in (by decide)) dX11_fever_29 ?_
            refine lv_icmp_ge (tgt := 55) hx hb dX11_fever_30 (by decide) (fun c2 => ?_) (fun c2 => ?_)
            · replace h := (if_pos c2).symm.trans h
              have eo := hst _ (Option.some.inj h).symm
              subst eo
              exact kk55 H locs ls (lv_sub hl [0, 1, 2, 3, 4] rfl) hP hD hS
            · replace h := (if_neg c2).symm.trans h
              refine lv_iload hx hb dX11_fever_33 (lv_at hl 4 rfl) ?_
              refine lv_aload_n hx hb dX11_fever_35 rfl (lv_at hl 0 rfl) ?_
              refine va_get (D := D) (ci := 11) (v := .ref (a0 0)) (C := RX11) (T := TX11) (N := 38) hx hb hts hinX11 hown hK hP 0 rfl rfl 0 (by decide) (hts (.fieldLink RX11 7 "KneeBenchModel" "at" "[I") (List.mem_of_getElem? (i := 1) rfl)) (fun _ h9 => h9) rfl dX11_fever_36 ?_
              refine lv_iload hx hb dX11_fever_39 (lv_at hl 5 rfl) ?_
              refine lv_iload_n hx hb dX11_fever_41 rfl (lv_at hl 3 rfl) ?_
              refine ca_i (w' := [WX11 cy h0 a0 s0]) (rn_S (As := [.int q22.2, .int q6.2.2]) (rest := [.ref (a0 0), .int q22.1]) ⟨hx, hb, hml, hown, hts⟩ (kX11_twingeRow l D cy q22.2 q6.2.2 _ rfl H.size) (va_cwS 2 hts gX11_fever_X11_twingeRow rfl rfl rfl (by decide +kernel) ⟨Nat.le_of_ble_eq_true rfl, Nat.le_of_ble_eq_true rfl⟩) hK hN hP hD [] rfl rfl rfl hl.1 rfl (Nat.le_of_ble_eq_true rfl) dX11_fever_42 ⟨Nat.le_refl 0, Nat.le_refl 0⟩) hP hD hS hA [] ⟨rfl, rfl, rfl, rfl⟩ (fun H locs hP hD hS => ?_)
              obtain ⟨g3, h⟩ := gd_elim h
              refine va_iald hx hb hK hP 1 1 rfl rfl (inb_in g3) dX11_fever_45 ?_
              refine lv_iadd hx hb dX11_fever_46 ?_
              refine lv_topi (fun x4 ex4 => ?_)
              replace h := lt_use h x4 ex4
              refine lv_istore (lv' := [(4, .int x4), (0, .ref h0), (1, .int q6.1), (2, .int q6.2.1), (3, .int q6.2.2), (5, .int q22.2)]) hx hb dX11_fever_47 hl (by decide) rfl (fun ls hl => ?_)
              refine lv_iinc (v := (q22.2 + (1 : Int32))) (lv' := [(5, .int (q22.2 + (1 : Int32))), (4, .int x4), (0, .ref h0), (1, .int q6.1), (2, .int q6.2.1), (3, .int q6.2.2)]) hx hb dX11_fever_49 hl (k := 5) rfl rfl (by decide) rfl (fun ls hl => ?_)
              refine lv_goto (tgt := 22) hx hb dX11_fever_52 (by decide) ?_
              exact ih _ o (hgo _ (Option.some.inj h).symm) H locs ls (lv_sub hl [2, 3, 4, 5, 1, 0] rfl) hP hD hS kk55
        obtain ⟨o22, ho22, h⟩ := bd_elim h
        obtain ⟨n22, hn22⟩ := loopF_some ho22
        refine L22 n22 _ o22 hn22 H locs ls (lv_sub hl [2, 3, 4, 5, 1, 0] rfl) hP hD hS (fun H locs ls hl hP hD hS => ?_)
        refine lv_iload hx hb dX11_fever_55 (lv_at hl 4 rfl) ?_
        refine lv_iload_n hx hb dX11_fever_57 rfl (lv_at hl 2 rfl) ?_
        refine lv_icmp_gt (tgt := 64) hx hb dX11_fever_58 (by decide) (fun c5 => ?_) (fun c5 => ?_)
        · replace h := (if_pos c5).symm.trans h
          refine lv_iload hx hb dX11_fever_64 (lv_at hl 4 rfl) ?_
          refine lv_istore_n (lv' := [(2, .int o22), (0, .ref h0), (1, .int q6.1), (3, .int q6.2.2), (4, .int o22)]) hx hb dX11_fever_66 rfl hl (by decide) rfl (fun ls hl => ?_)
          refine lv_iload_n hx hb dX11_fever_67 rfl (lv_at hl 3 rfl) ?_
          refine lv_istore_n (lv' := [(1, .int q6.2.2), (2, .int o22), (0, .ref h0), (3, .int q6.2.2), (4, .int o22)]) hx hb dX11_fever_68 rfl hl (by decide) rfl (fun ls hl => ?_)
          refine lv_iinc (v := (q6.2.2 + (1 : Int32))) (lv' := [(3, .int (q6.2.2 + (1 : Int32))), (1, .int q6.2.2), (2, .int o22), (0, .ref h0), (4, .int o22)]) hx hb dX11_fever_69 hl (k := 3) rfl rfl (by decide) rfl (fun ls hl => ?_)
          refine lv_goto (tgt := 6) hx hb dX11_fever_72 (by decide) ?_
          exact ih _ o (hgo _ (Option.some.inj h).symm) H locs ls (lv_sub hl [3, 1, 2, 0] rfl) hP hD hS kk75
        · replace h := (if_neg c5).symm.trans h
          refine lv_goto (tgt := 69) hx hb dX11_fever_61 (by decide) ?_
          refine lv_iinc (v := (q6.2.2 + (1 : Int32))) (lv' := [(3, .int (q6.2.2 + (1 : Int32))), (0, .ref h0), (1, .int q6.1), (2, .int q6.2.1), (4, .int o22)]) hx hb dX11_fever_69 hl (k := 3) rfl rfl (by decide) rfl (fun ls hl => ?_)
          refine lv_goto (tgt := 6) hx hb dX11_fever_72 (by decide) ?_
          exact ih _ o (hgo _ (Option.some.inj h).symm) H locs ls (lv_sub hl [1, 2, 3, 0] rfl) hP hD hS kk75
  obtain ⟨o6, ho6, h⟩ := bd_elim h
  obtain ⟨n6, hn6⟩ := loopF_some ho6
  refine L6 n6 _ o6 hn6 H locs ls (lv_sub hl [3, 2, 1, 0] rfl) hP hD hS (fun H locs ls hl hP hD hS => ?_)
  refine lv_aload_n hx hb dX11_fever_75 rfl (lv_at hl 0 rfl) ?_
  refine lv_iload_n hx hb dX11_fever_76 rfl (lv_at hl 1 rfl) ?_
  obtain ⟨r6, hr6, h⟩ := lt_elim h
  refine ca_i (w' := [WX11 cy h0 a0 r6.2]) (rn_V (As := [.int o6]) (rest := []) ⟨hx, hb, hml, hown, hts⟩ (kX11_orNone l D cy h0 a0 s0 o6 r6 hr6.symm H.size) (cwV 1 hts gX11_fever_X11_orNone rfl rfl rfl (by decide +kernel) ⟨Nat.le_of_ble_eq_true rfl, Nat.le_of_ble_eq_true rfl⟩) hK hN hP hD [0] rfl rfl (ci := 11) (q0 := 0) rfl rfl rfl rfl hl.1 rfl (Nat.le_of_ble_eq_true rfl) dX11_fever_77 ⟨Nat.le_refl 0, Nat.le_refl 0⟩) hP hD hS hA [0] ⟨rfl, rfl, rfl, rfl⟩ (fun H locs hP hD hS => ?_)
  exact hret 80 H locs ls (r6.1, r6.2) (Option.some.inj h) hP hD hS dX11_fever_80
theorem gd_X11_isEnough : wsX11_isEnough.all goodWord = true := by decide +kernel
set_option maxRecDepth 20000 in
theorem ggX11_isEnough_X11_tellOf : GoodIn wsX11_isEnough wsX11_tellOf := goodIn_by gd_X11_isEnough (List.forall_mem_cons.mpr ⟨List.mem_cons_of_mem _ (List.mem_append_left _ (List.mem_append_left _ (List.mem_of_getElem? (i := 5) rfl))), List.forall_mem_append.mpr ⟨List.forall_mem_cons.mpr ⟨List.mem_cons_of_mem _ (List.mem_append_left _ (List.mem_append_left _ (List.mem_of_getElem? (i := 6) rfl))), List.forall_mem_cons.mpr ⟨List.mem_cons_of_mem _ (List.mem_append_left _ (List.mem_append_left _ (List.mem_of_getElem? (i := 0) rfl))), List.forall_mem_cons.mpr ⟨List.mem_cons_of_mem _ (List.mem_append_left _ (List.mem_append_left _ (List.mem_of_getElem? (i := 7) rfl))), List.forall_mem_cons.mpr ⟨List.mem_cons_of_mem _ (List.mem_append_left _ (List.mem_append_left _ (List.mem_of_getElem? (i := 8) rfl))), List.forall_mem_cons.mpr ⟨List.mem_cons_of_mem _ (List.mem_append_left _ (List.mem_append_left _ (List.mem_of_getElem? (i := 9) rfl))), List.forall_mem_cons.mpr ⟨List.mem_cons_of_mem _ (List.mem_append_left _ (List.mem_append_left _ (List.mem_of_getElem? (i := 10) rfl))), List.forall_mem_cons.mpr ⟨List.mem_cons_of_mem _ (List.mem_append_left _ (List.mem_append_left _ (List.mem_of_getElem? (i := 4) rfl))), List.forall_mem_cons.mpr ⟨List.mem_cons_of_mem _ (List.mem_append_left _ (List.mem_append_left _ (List.mem_of_getElem? (i := 11) rfl))), List.forall_mem_cons.mpr ⟨List.mem_cons_of_mem _ (List.mem_append_left _ (List.mem_append_left _ (List.mem_of_getElem? (i := 12) rfl))), List.forall_mem_cons.mpr ⟨List.mem_cons_of_mem _ (List.mem_append_left _ (List.mem_append_left _ (List.mem_of_getElem? (i := 13) rfl))), List.forall_mem_cons.mpr ⟨List.mem_cons_of_mem _ (List.mem_append_left _ (List.mem_append_left _ (List.mem_of_getElem? (i := 14) rfl))), List.forall_mem_cons.mpr ⟨List.mem_cons_of_mem _ (List.mem_append_left _ (List.mem_append_left _ (List.mem_of_getElem? (i := 15) rfl))), List.forall_mem_cons.mpr ⟨List.mem_cons_of_mem _ (List.mem_append_left _ (List.mem_append_left _ (List.mem_of_getElem? (i := 16) rfl))), List.forall_mem_cons.mpr ⟨List.mem_cons_of_mem _ (List.mem_append_left _ (List.mem_append_left _ (List.mem_of_getElem? (i := 17) rfl))), List.forall_mem_cons.mpr ⟨List.mem_cons_of_mem _ (List.mem_append_left _ (List.mem_append_left _ (List.mem_of_getElem? (i := 18) rfl))), List.forall_mem_cons.mpr ⟨List.mem_cons_of_mem _ (List.mem_append_left _ (List.mem_append_left _ (List.mem_of_getElem? (i := 19) rfl))), List.forall_mem_cons.mpr ⟨List.mem_cons_of_mem _ (List.mem_append_left _ (List.mem_append_left _ (List.mem_of_getElem? (i := 20) rfl))), List.forall_mem_cons.mpr ⟨List.mem_cons_of_mem _ (List.mem_append_left _ (List.mem_append_left _ (List.mem_of_getElem? (i := 21) rfl))), List.forall_mem_cons.mpr ⟨List.mem_cons_of_mem _ (List.mem_append_left _ (List.mem_append_left _ (List.mem_of_getElem? (i := 22) rfl))), List.forall_mem_cons.mpr ⟨List.mem_cons_of_mem _ (List.mem_append_left _ (List.mem_append_left _ (List.mem_of_getElem? (i := 23) rfl))), List.forall_mem_cons.mpr ⟨List.mem_cons_of_mem _ (List.mem_append_left _ (List.mem_append_right _ (List.mem_of_getElem? (i := 0) rfl))), List.forall_mem_cons.mpr ⟨List.mem_cons_of_mem _ (List.mem_append_left _ (List.mem_append_right _ (List.mem_of_getElem? (i := 1) rfl))), nowords_in⟩⟩⟩⟩⟩⟩⟩⟩⟩⟩⟩⟩⟩⟩⟩⟩⟩⟩⟩⟩⟩⟩, (fun _ h => List.mem_cons_of_mem _ (List.mem_append_right _ (h)))⟩⟩)
set_option maxRecDepth 20000 in
theorem gX11_isEnough_X11_tellOf : GoodIn wsX11_isEnough (wsV RX11 307 RX11 yX11_tellOf wsX11_tellOf) := goodIn_app (goodIn_by gd_X11_isEnough (List.forall_mem_cons.mpr ⟨List.mem_cons_of_mem _ (List.mem_append_left _ (List.mem_append_left _ (List.mem_of_getElem? (i := 1) rfl))), List.forall_mem_cons.mpr ⟨List.mem_cons_of_mem _ (List.mem_append_left _ (List.mem_append_left _ (List.mem_of_getElem? (i := 2) rfl))), List.forall_mem_cons.mpr ⟨List.mem_cons_of_mem _ (List.mem_append_left _ (List.mem_append_left _ (List.mem_of_getElem? (i := 3) rfl))), List.forall_mem_cons.mpr ⟨List.mem_cons_of_mem _ (List.mem_append_left _ (List.mem_append_left _ (List.mem_of_getElem? (i := 4) rfl))), nowords_in⟩⟩⟩⟩)) ggX11_isEnough_X11_tellOf
set_option maxRecDepth 20000 in
theorem ggX11_isEnough_X11_isWet : GoodIn wsX11_isEnough wsX11_isWet := goodIn_by gd_X11_isEnough (List.forall_mem_cons.mpr ⟨List.mem_cons_of_mem _ (List.mem_append_left _ (List.mem_append_right _ (List.mem_of_getElem? (i := 5) rfl))), List.forall_mem_append.mpr ⟨List.forall_mem_cons.mpr ⟨List.mem_cons_of_mem _ (List.mem_append_left _ (List.mem_append_left _ (List.mem_of_getElem? (i := 0) rfl))), nowords_in⟩, (fun _ h => List.mem_cons_of_mem _ (List.mem_append_right _ (h)))⟩⟩)
set_option maxRecDepth 20000 in
theorem gX11_isEnough_X11_isWet : GoodIn wsX11_isEnough (wsV RX11 264 RX11 yX11_isWet wsX11_isWet) := goodIn_app (goodIn_by gd_X11_isEnough (List.forall_mem_cons.mpr ⟨List.mem_cons_of_mem _ (List.mem_append_left _ (List.mem_append_right _ (List.mem_of_getElem? (i := 2) rfl))), List.forall_mem_cons.mpr ⟨List.mem_cons_of_mem _ (List.mem_append_left _ (List.mem_append_right _ (List.mem_of_getElem? (i := 3) rfl))), List.forall_mem_cons.mpr ⟨List.mem_cons_of_mem _ (List.mem_append_left _ (List.mem_append_right _ (List.mem_of_getElem? (i := 4) rfl))), List.forall_mem_cons.mpr ⟨List.mem_cons_of_mem _ (List.mem_append_left _ (List.mem_append_left _ (List.mem_of_getElem? (i := 4) rfl))), nowords_in⟩⟩⟩⟩)) ggX11_isEnough_X11_isWet
theorem dX11_isEnough_0 : decode cX11_isEnough 0 = .ok (.iconst 0, 1) := by decide +kernel
theorem dX11_isEnough_1 : decode cX11_isEnough 1 = .ok (.istore_n 3, 1) := by decide +kernel
theorem dX11_isEnough_2 : decode cX11_isEnough 2 = .ok (.iconst 0, 1) := by decide +kernel
theorem dX11_isEnough_3 : decode cX11_isEnough 3 = .ok (.istore 4, 2) := by decide +kernel
theorem dX11_isEnough_5 : decode cX11_isEnough 5 = .ok (.iload 4, 2) := by decide +kernel
theorem dX11_isEnough_7 : decode cX11_isEnough 7 = .ok (.aload_n 0, 1) := by decide +kernel
theorem dX11_isEnough_8 : decode cX11_isEnough 8 = .ok (.getfield 7, 3) := by decide +kernel
theorem dX11_isEnough_11 : decode cX11_isEnough 11 = .ok (.iconst 1, 1) := by decide +kernel
theorem dX11_isEnough_12 : decode cX11_isEnough 12 = .ok (.iaload, 1) := by decide +kernel
theorem dX11_isEnough_13 : decode cX11_isEnough 13 = .ok (.if_icmp .ge 104, 3) := by decide +kernel
theorem dX11_isEnough_16 : decode cX11_isEnough 16 = .ok (.iconst 0, 1) := by decide +kernel
theorem dX11_isEnough_17 : decode cX11_isEnough 17 = .ok (.istore 5, 2) := by decide +kernel
theorem dX11_isEnough_19 : decode cX11_isEnough 19 = .ok (.iconst 0, 1) := by decide +kernel
theorem dX11_isEnough_20 : decode cX11_isEnough 20 = .ok (.istore 6, 2) := by decide +kernel
theorem dX11_isEnough_22 : decode cX11_isEnough 22 = .ok (.iload 6, 2) := by decide +kernel
theorem dX11_isEnough_24 : decode cX11_isEnough 24 = .ok (.aload_n 0, 1) := by decide +kernel
theorem dX11_isEnough_25 : decode cX11_isEnough 25 = .ok (.getfield 7, 3) := by decide +kernel
theorem dX11_isEnough_28 : decode cX11_isEnough 28 = .ok (.iconst 0, 1) := by decide +kernel
theorem dX11_isEnough_29 : decode cX11_isEnough 29 = .ok (.iaload, 1) := by decide +kernel
theorem dX11_isEnough_30 : decode cX11_isEnough 30 = .ok (.if_icmp .ge 43, 3) := by decide +kernel
theorem dX11_isEnough_33 : decode cX11_isEnough 33 = .ok (.iload 5, 2) := by decide +kernel
theorem dX11_isEnough_35 : decode cX11_isEnough 35 = .ok (.ifCond .ne 25, 3) := by decide +kernel
theorem dX11_isEnough_38 : decode cX11_isEnough 38 = .ok (.iload_n 1, 1) := by decide +kernel
theorem dX11_isEnough_39 : decode cX11_isEnough 39 = .ok (.iload 6, 2) := by decide +kernel
theorem dX11_isEnough_41 : decode cX11_isEnough 41 = .ok (.ishr, 1) := by decide +kernel
theorem dX11_isEnough_42 : decode cX11_isEnough 42 = .ok (.iconst 1, 1) := by decide +kernel
theorem dX11_isEnough_43 : decode cX11_isEnough 43 = .ok (.iand, 1) := by decide +kernel
theorem dX11_isEnough_44 : decode cX11_isEnough 44 = .ok (.iconst 1, 1) := by decide +kernel
theorem dX11_isEnough_45 : decode cX11_isEnough 45 = .ok (.if_icmp .ne 19, 3) := by decide +kernel
theorem dX11_isEnough_48 : decode cX11_isEnough 48 = .ok (.aload_n 0, 1) := by decide +kernel
theorem dX11_isEnough_49 : decode cX11_isEnough 49 = .ok (.iload 6, 2) := by decide +kernel
theorem dX11_isEnough_51 : decode cX11_isEnough 51 = .ok (.iload 4, 2) := by decide +kernel
theorem dX11_isEnough_53 : decode cX11_isEnough 53 = .ok (.invokevirtual 307, 3) := by decide +kernel
theorem dX11_isEnough_56 : decode cX11_isEnough 56 = .ok (.iconst 1, 1) := by decide +kernel
theorem dX11_isEnough_57 : decode cX11_isEnough 57 = .ok (.if_icmp .ne 7, 3) := by decide +kernel
theorem dX11_isEnough_60 : decode cX11_isEnough 60 = .ok (.iconst 1, 1) := by decide +kernel
theorem dX11_isEnough_61 : decode cX11_isEnough 61 = .ok (.goto 4, 3) := by decide +kernel
theorem dX11_isEnough_64 : decode cX11_isEnough 64 = .ok (.iconst 0, 1) := by decide +kernel
theorem dX11_isEnough_65 : decode cX11_isEnough 65 = .ok (.istore 5, 2) := by decide +kernel
theorem dX11_isEnough_67 : decode cX11_isEnough 67 = .ok (.iinc 6 1, 3) := by decide +kernel
theorem dX11_isEnough_70 : decode cX11_isEnough 70 = .ok (.goto (-48), 3) := by decide +kernel
theorem dX11_isEnough_73 : decode cX11_isEnough 73 = .ok (.aload_n 0, 1) := by decide +kernel
theorem dX11_isEnough_74 : decode cX11_isEnough 74 = .ok (.iload 4, 2) := by decide +kernel
theorem dX11_isEnough_76 : decode cX11_isEnough 76 = .ok (.invokevirtual 264, 3) := by decide +kernel
theorem dX11_isEnough_79 : decode cX11_isEnough 79 = .ok (.ifCond .eq 10, 3) := by decide +kernel
theorem dX11_isEnough_82 : decode cX11_isEnough 82 = .ok (.iload 5, 2) := by decide +kernel
theorem dX11_isEnough_84 : decode cX11_isEnough 84 = .ok (.ifCond .ne 5, 3) := by decide +kernel
theorem dX11_isEnough_87 : decode cX11_isEnough 87 = .ok (.iconst 0, 1) := by decide +kernel
theorem dX11_isEnough_88 : decode cX11_isEnough 88 = .ok (.ireturn, 1) := by decide +kernel
theorem dX11_isEnough_89 : decode cX11_isEnough 89 = .ok (.iload_n 3, 1) := by decide +kernel
theorem dX11_isEnough_90 : decode cX11_isEnough 90 = .ok (.aload_n 0, 1) := by decide +kernel
theorem dX11_isEnough_91 : decode cX11_isEnough 91 = .ok (.iload 4, 2) := by decide +kernel
theorem dX11_isEnough_93 : decode cX11_isEnough 93 = .ok (.invokevirtual 264, 3) := by decide +kernel
theorem dX11_isEnough_96 : decode cX11_isEnough 96 = .ok (.ifCond .ne 12, 3) := by decide +kernel
theorem dX11_isEnough_99 : decode cX11_isEnough 99 = .ok (.iload 5, 2) := by decide +kernel
theorem dX11_isEnough_101 : decode cX11_isEnough 101 = .ok (.ifCond .eq 7, 3) := by decide +kernel
theorem dX11_isEnough_104 : decode cX11_isEnough 104 = .ok (.iconst 1, 1) := by decide +kernel
theorem dX11_isEnough_105 : decode cX11_isEnough 105 = .ok (.goto 4, 3) := by decide +kernel
theorem dX11_isEnough_108 : decode cX11_isEnough 108 = .ok (.iconst 0, 1) := by decide +kernel
theorem dX11_isEnough_109 : decode cX11_isEnough 109 = .ok (.iadd, 1) := by decide +kernel
theorem dX11_isEnough_110 : decode cX11_isEnough 110 = .ok (.istore_n 3, 1) := by decide +kernel
theorem dX11_isEnough_111 : decode cX11_isEnough 111 = .ok (.iinc 4 1, 3) := by decide +kernel
theorem dX11_isEnough_114 : decode cX11_isEnough 114 = .ok (.goto (-109), 3) := by decide +kernel
theorem dX11_isEnough_117 : decode cX11_isEnough 117 = .ok (.iload_n 3, 1) := by decide +kernel
theorem dX11_isEnough_118 : decode cX11_isEnough 118 = .ok (.iload_n 2, 1) := by decide +kernel
theorem dX11_isEnough_119 : decode cX11_isEnough 119 = .ok (.if_icmp .gt 7, 3) := by decide +kernel
theorem dX11_isEnough_122 : decode cX11_isEnough 122 = .ok (.iconst 1, 1) := by decide +kernel
theorem dX11_isEnough_123 : decode cX11_isEnough 123 = .ok (.goto 4, 3) := by decide +kernel
theorem dX11_isEnough_126 : decode cX11_isEnough 126 = .ok (.iconst 0, 1) := by decide +kernel
theorem dX11_isEnough_127 : decode cX11_isEnough 127 = .ok (.ireturn, 1) := by decide +kernel
abbrev rmX11_isEnough : Room := { frames := 3, cells := 0, slots := 0, locals := 66 }
set_option maxHeartbeats 4000000 in
set_option maxRecDepth 100000 in
theorem kX11_isEnough (l : Launch) (D : va_G) (cy : Nat → ClassId) (h0 : Nat) (a0 : Nat → Nat) (s0 : Rc) (p1 : Int32) (p2 : Int32) (res : Int32) (h : fX11_isEnough p1 p2 s0 = some res) : CZ l D cy yX11_isEnough wsX11_isEnough rmX11_isEnough [.ref h0, .int p1, .int p2] (flat [WX11 cy h0 a0 s0]) (flat [WX11 cy h0 a0 s0]) res := by
  refine CZ.of (cc := cX11_isEnough) (maxL := 7) (by decide) rfl (Nat.le_of_ble_eq_true rfl) ?_
  intro p e s m args below meth c A QQ ls E hr
  obtain ⟨hx, hb, hml, hown, hts, hK, hN, hP, hD, hA, hl⟩ := E
  have hret : ∀ (pc : Nat) (H : Heap) (locs : List Loc) (ls : Array Slot) (u : Int32), u = res → va_P D vwCl (flat [WX11 cy h0 a0 s0]) H → va_D A (flat [WX11 cy h0 a0 s0]) → va_S A s.heap H locs → isb u = true → decode cX11_isEnough pc = .ok (.ireturn, 1) → W p l e rmX11_isEnough s m args below meth c H locs 0 0 QQ (F0 m pc ls [.int u]) := by
    intro pc H locs ls u hu hP hD hS hz hd; subst hu; exact hr pc H locs ls _ rfl hP hD hS hz hd
  clear hr
  have hl : lv_has ls 7 [(0, .ref h0), (1, .int p1), (2, .int p2)] := hl
  have hinX11 : ∀ w ∈ wsX110, w ∈ wsX11_isEnough := fun _ h => List.mem_cons_of_mem _ (List.mem_append_right _ h)
  unfold fX11_isEnough at h
  suffices key : ∀ (H : Heap) (locs : List Loc), va_P D vwCl (flat [WX11 cy h0 a0 s0]) H → va_S A s.heap H locs → W p l e rmX11_isEnough s m args below meth c H locs 0 0 QQ (F0 m 0 ls []) from key _ _ hP va_S.rf
  clear hP
  intro H locs hP hS
  refine lv_iconst (v := 0) hx hb dX11_isEnough_0 (by decide) ?_
  refine lv_istore_n (lv' := [(3, .int (0 : Int32)), (0, .ref h0), (1, .int p1), (2, .int p2)]) hx hb dX11_isEnough_1 rfl hl (by decide) rfl (fun ls hl => ?_)
  refine lv_iconst (v := 0) hx hb dX11_isEnough_2 (by decide) ?_
  refine lv_istore (lv' := [(4, .int (0 : Int32)), (3, .int (0 : Int32)), (0, .ref h0), (1, .int p1), (2, .int p2)]) hx hb dX11_isEnough_3 hl (by decide) rfl (fun ls hl => ?_)
  have L5 : ∀ (n : Nat) (q5 : Int32 × Int32) (o : (Unit) ⊕ (Int32)), loopO (fX11_isEnough_L5 p1 s0) n q5 = some o → ∀ (H : Heap) (locs : List Loc) (ls : Array Slot), lv_has ls 7 [(0, .ref h0), (1, .int p1), (2, .int p2), (3, .int q5.1), (4, .int q5.2)] → va_P D vwCl (flat [WX11 cy h0 a0 s0]) H → va_D A (flat [WX11 cy h0 a0 s0]) → va_S A s.heap H locs → ∀ (kk87 : ∀ v : Unit, o = (.inl v) → ∀ (H : Heap) (locs : List Loc) (ls : Array Slot), lv_has ls 7 [] → va_P D vwCl (flat [WX11 cy h0 a0 s0]) H → va_D A (flat [WX11 cy h0 a0 s0]) → va_S A s.heap H locs → W p l e rmX11_isEnough s m args below meth c H locs 0 0 QQ (F0 m 87 ls [])) (kk117 : ∀ v : Int32, o = (.inr v) → ∀ (H : Heap) (locs : List Loc) (ls : Array Slot), lv_has ls 7 [(2, .int p2), (3, .int v)] → va_P D vwCl (flat [WX11 cy h0 a0 s0]) H → va_D A (flat [WX11 cy h0 a0 s0]) → va_S A s.heap H locs → W p l e rmX11_isEnough s m args below meth c H locs 0 0 QQ (F0 m 117 ls [])), W p l e rmX11_isEnough s m args below meth c H locs 0 0 QQ (F0 m 5 ls []) := by
    intro n
    induction n with
    | zero => intro q5 o h; exact absurd h (by rw [loopO_zero]; intro z; cases z)
    | succ n ih =>
      intro q5 o h H locs ls hl hP hD hS kk87 kk117
      obtain ⟨w, h, hgo, hst⟩ := loopO_elim h
      unfold fX11_isEnough_L5 at h
      have J89 : ∀ (y89_5 : Int32) (H : Heap) (locs : List Loc) (ls : Array Slot), lv_has ls 7 [(0, .ref h0), (1, .int p1), (2, .int p2), (3, .int q5.1), (4, .int q5.2), (5, .int y89_5)] → va_P D vwCl (flat [WX11 cy h0 a0 s0]) H → va_D A (flat [WX11 cy h0 a0 s0]) → va_S A s.heap H locs → fX11_isEnough_J89 s0 q5 y89_5 = some w → W p l e rmX11_isEnough s m args below meth c H locs 0 0 QQ (F0 m 89 ls []) := by
        intro y89_5 H locs ls hl hP hD hS h
        unfold fX11_isEnough_J89 at h
        refine lv_iload_n hx hb dX11_isEnough_89 rfl (lv_at hl 3 rfl) ?_
        refine lv_aload_n hx hb dX11_isEnough_90 rfl (lv_at hl 0 rfl) ?_
        refine lv_iload hx hb dX11_isEnough_91 (lv_at hl 4 rfl) ?_
        obtain ⟨r1, hr1, h⟩ := bd_elim h
        refine ca_z (w' := [WX11 cy h0 a0 s0]) (rn_V (As := [.int q5.2]) (rest := [.int q5.1]) ⟨hx, hb, hml, hown, hts⟩ (kX11_isWet l D cy h0 a0 s0 q5.2 r1 hr1 H.size) (cwV 1 hts gX11_isEnough_X11_isWet rfl rfl rfl (by decide +kernel) ⟨Nat.le_of_ble_eq_true rfl, Nat.le_of_ble_eq_true rfl⟩) hK hN hP hD [0] rfl rfl (ci := 11) (q0 := 0) rfl rfl rfl rfl hl.1 rfl (Nat.le_of_ble_eq_true rfl) dX11_isEnough_93 ⟨Nat.le_refl 0, Nat.le_refl 0⟩) hP hD hS hA [0] ⟨rfl, rfl, rfl, rfl⟩ (fun b2 H locs hP hD hS => ?_)
        refine lv_if_ne (tgt := 108) hx hb dX11_isEnough_96 (by decide) (fun c3 => ?_) (fun c3 => ?_)
        · replace h := (if_neg c3).symm.trans h
          refine lv_iconst (v := 0) hx hb dX11_isEnough_108 (by decide) ?_
          refine lv_iadd hx hb dX11_isEnough_109 ?_
          refine lv_topi (fun x4 ex4 => ?_)
          replace h := lt_use h x4 ex4
          refine lv_istore_n (lv' := [(3, .int x4), (0, .ref h0), (1, .int p1), (2, .int p2), (4, .int q5.2), (5, .int y89_5)]) hx hb dX11_isEnough_110 rfl hl (by decide) rfl (fun ls hl => ?_)
          refine lv_iinc (v := (q5.2 + (1 : Int32))) (lv' := [(4, .int (q5.2 + (1 : Int32))), (3, .int x4), (0, .ref h0), (1, .int p1), (2, .int p2), (5, .int y89_5)]) hx hb dX11_isEnough_111 hl (k := 4) rfl rfl (by decide) rfl (fun ls hl => ?_)
          refine lv_goto (tgt := 5) hx hb dX11_isEnough_114 (by decide) ?_
          exact ih _ o (hgo _ (Option.some.inj h).symm) H locs ls (lv_sub hl [2, 3, 4, 1, 0] rfl) hP hD hS kk87 kk117
        · replace h := (if_pos c3).symm.trans h
          refine lv_iload hx hb dX11_isEnough_99 (lv_at hl 5 rfl) ?_
          refine lv_if_eq (tgt := 108) hx hb dX11_isEnough_101 (by decide) (fun c5 => ?_) (fun c5 => ?_)
          · replace h := (if_pos c5).symm.trans h
            refine lv_iconst (v := 0) hx hb dX11_isEnough_108 (by decide) ?_
            refine lv_iadd hx hb dX11_isEnough_109 ?_
            refine lv_topi (fun x6 ex6 => ?_)
            replace h := lt_use h x6 ex6
            refine lv_istore_n (lv' := [(3, .int x6), (0, .ref h0), (1, .int p1), (2, .int p2), (4, .int q5.2), (5, .int y89_5)]) hx hb dX11_isEnough_110 rfl hl (by decide) rfl (fun ls hl => ?_)
            refine lv_iinc (v := (q5.2 + (1 : Int32))) (lv' := [(4, .int (q5.2 + (1 : Int32))), (3, .int x6), (0, .ref h0), (1, .int p1), (2, .int p2), (5, .int y89_5)]) hx hb dX11_isEnough_111 hl (k := 4) rfl rfl (by decide) rfl (fun ls hl => ?_)
            refine lv_goto (tgt := 5) hx hb dX11_isEnough_114 (by decide) ?_
            exact ih _ o (hgo _ (Option.some.inj h).symm) H locs ls (lv_sub hl [2, 3, 4, 1, 0] rfl) hP hD hS kk87 kk117
          · replace h := (if_neg c5).symm.trans h
            refine lv_iconst (v := 1) hx hb dX11_isEnough_104 (by decide) ?_
            refine lv_goto (tgt := 109) hx hb dX11_isEnough_105 (by decide) ?_
            refine lv_iadd hx hb dX11_isEnough_109 ?_
            refine lv_topi (fun x7 ex7 => ?_)
            replace h := lt_use h x7 ex7
            refine lv_istore_n (lv' := [(3, .int x7), (0, .ref h0), (1, .int p1), (2, .int p2), (4, .int q5.2), (5, .int y89_5)]) hx hb dX11_isEnough_110 rfl hl (by decide) rfl (fun ls hl => ?_)
            refine lv_iinc (v := (q5.2 + (1 : Int32))) (lv' := [(4, .int (q5.2 + (1 : Int32))), (3, .int x7), (0, .ref h0), (1, .int p1), (2, .int p2), (5, .int y89_5)]) hx hb dX11_isEnough_111 hl (k := 4) rfl rfl (by decide) rfl (fun ls hl => ?_)
            refine lv_goto (tgt := 5) hx hb dX11_isEnough_114 (by decide) ?_
            exact ih _ o (hgo _ (Option.some.inj h).symm) H locs ls (lv_sub hl [2, 3, 4, 1, 0] rfl) hP hD hS kk87 kk117
      refine lv_iload hx hb dX11_isEnough_5 (lv_at hl 4 rfl) ?_
      refine lv_aload_n hx hb dX11_isEnough_7 rfl (lv_at hl 0 rfl) ?_
      refine va_get (D := D) (ci := 11) (v := .ref (a0 0)) (C := RX11) (T := TX11) (N := 38) hx hb hts hinX11 hown hK hP 0 rfl rfl 0 (by decide) (hts (.fieldLink RX11 7 "KneeBenchModel" "at" "[I") (List.mem_of_getElem? (i := 1) rfl)) (fun _ h9 => h9) rfl dX11_isEnough_8 ?_
      refine lv_iconst (v := 1) hx hb dX11_isEnough_11 (by decide) ?_
      refine va_iald hx hb hK hP 1 1 rfl rfl (inb_in (by decide)) dX11_isEnough_12 ?_
      refine lv_icmp_ge (tgt := 117) hx hb dX11_isEnough_13 (by decide) (fun c8 => ?_) (fun c8 => ?_)
      · replace h := (if_pos c8).symm.trans h
        have eo := hst _ (Option.some.inj h).symm
        exact kk117 _ eo.symm H locs ls (lv_sub hl [2, 3] rfl) hP hD hS
      · replace h := (if_neg c8).symm.trans h
        refine lv_iconst (v := 0) hx hb dX11_isEnough_16 (by decide) ?_
        refine lv_istore (lv' := [(5, .int (0 : Int32)), (0, .ref h0), (1, .int p1), (2, .int p2), (3, .int q5.1), (4, .int q5.2)]) hx hb dX11_isEnough_17 hl (by decide) rfl (fun ls hl => ?_)
        refine lv_iconst (v := 0) hx hb dX11_isEnough_19 (by decide) ?_
        refine lv_istore (lv' := [(6, .int (0 : Int32)), (5, .int (0 : Int32)), (0, .ref h0), (1, .int p1), (2, .int p2), (3, .int q5.1), (4, .int q5.2)]) hx hb dX11_isEnough_20 hl (by decide) rfl (fun ls hl => ?_)
        have L22 : ∀ (n : Nat) (q22 : Int32 × Int32) (o : Int32), loopO (fX11_isEnough_L22 p1 s0 q5) n q22 = some o → ∀ (H : Heap) (locs : List Loc) (ls : Array Slot), lv_has ls 7 [(0, .ref h0), (1, .int p1), (2, .int p2), (3, .int q5.1), (4, .int q5.2), (5, .int q22.1), (6, .int q22.2)] → va_P D vwCl (flat [WX11 cy h0 a0 s0]) H → va_D A (flat [WX11 cy h0 a0 s0]) → va_S A s.heap H locs → ∀ (kk73 : ∀ (H : Heap) (locs : List Loc) (ls : Array Slot), lv_has ls 7 [(0, .ref h0), (1, .int p1), (2, .int p2), (3, .int q5.1), (4, .int q5.2), (5, .int o)] → va_P D vwCl (flat [WX11 cy h0 a0 s0]) H → va_D A (flat [WX11 cy h0 a0 s0]) → va_S A s.heap H locs → W p l e rmX11_isEnough s m args below meth c H locs 0 0 QQ (F0 m 73 ls [])), W p l e rmX11_isEnough s m args below meth c H locs 0 0 QQ (F0 m 22 ls []) := by
          intro n
          induction n with
          | zero => intro q22 o h; exact absurd h (by rw [loopO_zero]; intro z; cases z)
          | succ n ih =>
            intro q22 o h H locs ls hl hP hD hS kk73
            obtain ⟨w, h, hgo, hst⟩ := loopO_elim h
            unfold fX11_isEnough_L22 at h
            refine lv_iload hx hb dX11_isEnough_22 (lv_at hl 6 rfl) ?_
            refine lv_aload_n hx hb dX11_isEnough_24 rfl (lv_at hl 0 rfl) ?_
            refine va_get (D := D) (ci := 11) (v := .ref (a0 0)) (C := RX11) (T := TX11) (N := 38) hx hb hts hinX11 hown hK hP 0 rfl rfl 0 (by decide) (hts (.fieldLink RX11 7 "KneeBenchModel" "at" "[I") (List.mem_of_getElem? (i := 1) rfl)) (fun _ h9 => h9) rfl dX11_isEnough_25 ?_
            refine lv_iconst (v := 0) hx hb dX11_isEnough_28 (by decide) ?_
            refine va_iald hx hb hK hP 1 1 rfl rfl (inb_in (by decide)) dX11_isEnough_29 ?_
            refine lv_icmp_ge (tgt := 73) hx hb dX11_isEnough_30 (by decide) (fun c9 => ?_) (fun c9 => ?_)
            · replace h := (if_pos c9).symm.trans h
              have eo := hst _ (Option.some.inj h).symm
              subst eo
              exact kk73 H locs ls (lv_sub hl [0, 1, 2, 3, 4, 5] rfl) hP hD hS
            · replace h := (if_neg c9).symm.trans h
              refine lv_iload hx hb dX11_isEnough_33 (lv_at hl 5 rfl) ?_
              refine lv_if_ne (tgt := 60) hx hb dX11_isEnough_35 (by decide) (fun c10 => ?_) (fun c10 => ?_)
              · replace h := (if_neg c10).symm.trans h
                refine lv_iconst (v := 1) hx hb dX11_isEnough_60 (by decide) ?_
                refine lv_goto (tgt := 65) hx hb dX11_isEnough_61 (by decide) ?_
                refine lv_istore (lv' := [(5, .int (1 : Int32)), (0, .ref h0), (1, .int p1), (2, .int p2), (3, .int q5.1), (4, .int q5.2), (6, .int q22.2)]) hx hb dX11_isEnough_65 hl (by decide) rfl (fun ls hl => ?_)
                refine lv_iinc (v := (q22.2 + (1 : Int32))) (lv' := [(6, .int (q22.2 + (1 : Int32))), (5, .int (1 : Int32)), (0, .ref h0), (1, .int p1), (2, .int p2), (3, .int q5.1), (4, .int q5.2)]) hx hb dX11_isEnough_67 hl (k := 6) rfl rfl (by decide) rfl (fun ls hl => ?_)
                refine lv_goto (tgt := 22) hx hb dX11_isEnough_70 (by decide) ?_
                exact ih _ o (hgo _ (Option.some.inj h).symm) H locs ls (lv_sub hl [2, 3, 4, 5, 6, 1, 0] rfl) hP hD hS kk73
              · replace h := (if_pos c10).symm.trans h
                refine lv_iload_n hx hb dX11_isEnough_38 rfl (lv_at hl 1 rfl) ?_
                refine lv_iload hx hb dX11_isEnough_39 (lv_at hl 6 rfl) ?_
                refine lv_ishr hx hb dX11_isEnough_41 ?_
                refine lv_iconst (v := 1) hx hb dX11_isEnough_42 (by decide) ?_
                refine lv_iand hx hb dX11_isEnough_43 ?_
                refine lv_iconst (v := 1) hx hb dX11_isEnough_44 (by decide) ?_
                refine lv_icmp_ne (tgt := 64) hx hb dX11_isEnough_45 (by decide) (fun c11 => ?_) (fun c11 => ?_)
                · replace h := (if_neg c11).symm.trans h
                  refine lv_iconst (v := 0) hx hb dX11_isEnough_64 (by decide) ?_
                  refine lv_istore (lv' := [(5, .int (0 : Int32)), (0, .ref h0), (1, .int p1), (2, .int p2), (3, .int q5.1), (4, .int q5.2), (6, .int q22.2)]) hx hb dX11_isEnough_65 hl (by decide) rfl (fun ls hl => ?_)
                  refine lv_iinc (v := (q22.2 + (1 : Int32))) (lv' := [(6, .int (q22.2 + (1 : Int32))), (5, .int (0 : Int32)), (0, .ref h0), (1, .int p1), (2, .int p2), (3, .int q5.1), (4, .int q5.2)]) hx hb dX11_isEnough_67 hl (k := 6) rfl rfl (by decide) rfl (fun ls hl => ?_)
                  refine lv_goto (tgt := 22) hx hb dX11_isEnough_70 (by decide) ?_
                  exact ih _ o (hgo _ (Option.some.inj h).symm) H locs ls (lv_sub hl [2, 3, 4, 5, 6, 1, 0] rfl) hP hD hS kk73
                · replace h := (if_pos c11).symm.trans h
                  refine lv_aload_n hx hb dX11_isEnough_48 rfl (lv_at hl 0 rfl) ?_
                  refine lv_iload hx hb dX11_isEnough_49 (lv_at hl 6 rfl) ?_
                  refine lv_iload hx hb dX11_isEnough_51 (lv_at hl 4 rfl) ?_
                  obtain ⟨r12, hr12, h⟩ := bd_elim h
                  refine ca_i (w' := [WX11 cy h0 a0 s0]) (rn_V (As := [.int q22.2, .int q5.2]) (rest := []) ⟨hx, hb, hml, hown, hts⟩ (kX11_tellOf l D cy h0 a0 s0 q22.2 q5.2 r12 hr12 H.size) (cwV 2 hts gX11_isEnough_X11_tellOf rfl rfl rfl (by decide +kernel) ⟨Nat.le_of_ble_eq_true rfl, Nat.le_of_ble_eq_true rfl⟩) hK hN hP hD [0] rfl rfl (ci := 11) (q0 := 0) rfl rfl rfl rfl hl.1 rfl (Nat.le_of_ble_eq_true rfl) dX11_isEnough_53 ⟨Nat.le_refl 0, Nat.le_refl 0⟩) hP hD hS hA [0] ⟨rfl, rfl, rfl, rfl⟩ (fun H locs hP hD hS => ?_)
                  refine lv_iconst (v := 1) hx hb dX11_isEnough_56 (by decide) ?_
                  refine lv_icmp_ne (tgt := 64) hx hb dX11_isEnough_57 (by decide) (fun c13 => ?_) (fun c13 => ?_)
                  · replace h := (if_neg c13).symm.trans h
                    refine lv_iconst (v := 0) hx hb dX11_isEnough_64 (by decide) ?_
                    refine lv_istore (lv' := [(5, .int (0 : Int32)), (0, .ref h0), (1, .int p1), (2, .int p2), (3, .int q5.1), (4, .int q5.2), (6, .int q22.2)]) hx hb dX11_isEnough_65 hl (by decide) rfl (fun ls hl => ?_)
                    refine lv_iinc (v := (q22.2 + (1 : Int32))) (lv' := [(6, .int (q22.2 + (1 : Int32))), (5, .int (0 : Int32)), (0, .ref h0), (1, .int p1), (2, .int p2), (3, .int q5.1), (4, .int q5.2)]) hx hb dX11_isEnough_67 hl (k := 6) rfl rfl (by decide) rfl (fun ls hl => ?_)
                    refine lv_goto (tgt := 22) hx hb dX11_isEnough_70 (by decide) ?_
                    exact ih _ o (hgo _ (Option.some.inj h).symm) H locs ls (lv_sub hl [2, 3, 4, 5, 6, 1, 0] rfl) hP hD hS kk73
                  · replace h := (if_pos c13).symm.trans h
                    refine lv_iconst (v := 1) hx hb dX11_isEnough_60 (by decide) ?_
                    refine lv_goto (tgt := 65) hx hb dX11_isEnough_61 (by decide) ?_
                    refine lv_istore (lv' := [(5, .int (1 : Int32)), (0, .ref h0), (1, .int p1), (2, .int p2), (3, .int q5.1), (4, .int q5.2), (6, .int q22.2)]) hx hb dX11_isEnough_65 hl (by decide) rfl (fun ls hl => ?_)
                    refine lv_iinc (v := (q22.2 + (1 : Int32))) (lv' := [(6, .int (q22.2 + (1 : Int32))), (5, .int (1 : Int32)), (0, .ref h0), (1, .int p1), (2, .int p2), (3, .int q5.1), (4, .int q5.2)]) hx hb dX11_isEnough_67 hl (k := 6) rfl rfl (by decide) rfl (fun ls hl => ?_)
                    refine lv_goto (tgt := 22) hx hb dX11_isEnough_70 (by decide) ?_
                    exact ih _ o (hgo _ (Option.some.inj h).symm) H locs ls (lv_sub hl [2, 3, 4, 5, 6, 1, 0] rfl) hP hD hS kk73
        obtain ⟨o22, ho22, h⟩ := bd_elim h
        obtain ⟨n22, hn22⟩ := loopF_some ho22
        refine L22 n22 _ o22 hn22 H locs ls (lv_sub hl [2, 3, 4, 5, 6, 1, 0] rfl) hP hD hS (fun H locs ls hl hP hD hS => ?_)
        refine lv_aload_n hx hb dX11_isEnough_73 rfl (lv_at hl 0 rfl) ?_
        refine lv_iload hx hb dX11_isEnough_74 (lv_at hl 4 rfl) ?_
        obtain ⟨r14, hr14, h⟩ := bd_elim h
        refine ca_z (w' := [WX11 cy h0 a0 s0]) (rn_V (As := [.int q5.2]) (rest := []) ⟨hx, hb, hml, hown, hts⟩ (kX11_isWet l D cy h0 a0 s0 q5.2 r14 hr14 H.size) (cwV 1 hts gX11_isEnough_X11_isWet rfl rfl rfl (by decide +kernel) ⟨Nat.le_of_ble_eq_true rfl, Nat.le_of_ble_eq_true rfl⟩) hK hN hP hD [0] rfl rfl (ci := 11) (q0 := 0) rfl rfl rfl rfl hl.1 rfl (Nat.le_of_ble_eq_true rfl) dX11_isEnough_76 ⟨Nat.le_refl 0, Nat.le_refl 0⟩) hP hD hS hA [0] ⟨rfl, rfl, rfl, rfl⟩ (fun b15 H locs hP hD hS => ?_)
        refine lv_if_eq (tgt := 89) hx hb dX11_isEnough_79 (by decide) (fun c16 => ?_) (fun c16 => ?_)
        · replace h := (if_pos c16).symm.trans h
          exact J89 o22 H locs ls (lv_sub hl [0, 1, 2, 3, 4, 5] rfl) hP hD hS h
        · replace h := (if_neg c16).symm.trans h
          refine lv_iload hx hb dX11_isEnough_82 (lv_at hl 5 rfl) ?_
          refine lv_if_ne (tgt := 89) hx hb dX11_isEnough_84 (by decide) (fun c17 => ?_) (fun c17 => ?_)
          · replace h := (if_neg c17).symm.trans h
            exact J89 o22 H locs ls (lv_sub hl [0, 1, 2, 3, 4, 5] rfl) hP hD hS h
          · replace h := (if_pos c17).symm.trans h
            have eo := hst _ (Option.some.inj h).symm
            exact kk87 _ eo.symm H locs ls (lv_sub hl [] rfl) hP hD hS
  obtain ⟨o5, ho5, h⟩ := bd_elim h
  obtain ⟨n5, hn5⟩ := loopF_some ho5
  refine L5 n5 _ o5 hn5 H locs ls (lv_sub hl [2, 3, 4, 1, 0] rfl) hP hD hS (fun o5a eo H locs ls hl hP hD hS => ?_) (fun o5b eo H locs ls hl hP hD hS => ?_)
  · subst eo
    rw [Sum.elim_inl] at h
    refine lv_iconst (v := 0) hx hb dX11_isEnough_87 (by decide) ?_
    exact hret 88 H locs ls (0 : Int32) (Option.some.inj h) hP hD hS (show isb (0 : Int32) = true by decide) dX11_isEnough_88
  · subst eo
    rw [Sum.elim_inr] at h
    refine lv_iload_n hx hb dX11_isEnough_117 rfl (lv_at hl 1 rfl) ?_
    refine lv_iload_n hx hb dX11_isEnough_118 rfl (lv_at hl 0 rfl) ?_
    refine lv_icmp_gt (tgt := 126) hx hb dX11_isEnough_119 (by decide) (fun c18 => ?_) (fun c18 => ?_)
    · replace h := (if_pos c18).symm.trans h
      refine lv_iconst (v := 0) hx hb dX11_isEnough_126 (by decide) ?_
      exact hret 127 H locs ls (0 : Int32) (Option.some.inj h) hP hD hS (show isb (0 : Int32) = true by decide) dX11_isEnough_127
    · replace h := (if_neg c18).symm.trans h
      refine lv_iconst (v := 1) hx hb dX11_isEnough_122 (by decide) ?_
      refine lv_goto (tgt := 127) hx hb dX11_isEnough_123 (by decide) ?_
      exact hret 127 H locs ls (1 : Int32) (Option.some.inj h) hP hD hS (show isb (1 : Int32) = true by decide) dX11_isEnough_127
