set_option maxRecDepth 100000 in
theorem wsK_9_in : GoodIn lw_tbl wsK_9 := goodIn_sub (fun w hw => by
  simp only [wsK_9, List.mem_cons, List.not_mem_nil, or_false] at hw
  rcases hw with rfl | rfl | rfl | rfl | rfl
  · exact List.mem_of_getElem? (i := 270) rfl
  · exact List.mem_of_getElem? (i := 780) rfl
  · exact List.mem_of_getElem? (i := 946) rfl
  · exact List.mem_of_getElem? (i := 1045) rfl
  · exact List.mem_of_getElem? (i := 1085) rfl) (by decide +kernel)
