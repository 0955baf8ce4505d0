/-! ===== a callee's words, one by one ===== -/
theorem goodIn_by {big ws : List Cond} (hg : big.all goodWord = true) (hm : ∀ w ∈ ws, w ∈ big) : GoodIn big ws := fun w hw => ⟨hm w hw, good_of_word (List.all_eq_true.mp hg w (hm w hw))⟩
theorem nowords_in {big : List Cond} : ∀ w ∈ ([] : List Cond), w ∈ big := fun _ h => absurd h List.not_mem_nil
