theorem gd_in {B big ws : List Cond} (hB : ∀ w ∈ B, w ∈ big) (hg : B.all goodWord = true) (h : ∀ w ∈ ws, w ∈ B) : GoodIn big ws := fun w hw => ⟨hB w (h w hw), good_of_word (List.all_eq_true.mp hg w (h w hw))⟩
theorem gd_V {B : List Cond} {l i s n c : Cond} (h1 : l ∈ B) (h2 : i ∈ B) (h3 : s ∈ B) (h4 : n ∈ B) (h5 : c ∈ B) : ∀ w ∈ ([l, i, s, n] ++ (c :: B) : List Cond), w ∈ B := by
  intro w hw
  simp only [List.cons_append, List.nil_append, List.mem_cons] at hw
  rcases hw with rfl | rfl | rfl | rfl | rfl | h <;> assumption
theorem gd_S {B : List Cond} {l s n c : Cond} (h1 : l ∈ B) (h3 : s ∈ B) (h4 : n ∈ B) (h5 : c ∈ B) : ∀ w ∈ ([l, s, n] ++ (c :: B) : List Cond), w ∈ B := by
  intro w hw
  simp only [List.cons_append, List.nil_append, List.mem_cons] at hw
  rcases hw with rfl | rfl | rfl | rfl | h <;> assumption
