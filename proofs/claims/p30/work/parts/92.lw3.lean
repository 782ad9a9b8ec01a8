/-! the words of the law -/
def wsT : List Cond := wsK ++ wsC
theorem wsT_in : GoodIn lw_tbl wsT := goodIn_app wsK_in wsC_in
theorem wsK_T : ∀ w ∈ wsK, w ∈ wsT := fun w h => List.mem_append_left _ h
theorem wsC_T : ∀ w ∈ wsC, w ∈ wsT := fun w h => List.mem_append_right _ h
theorem gd_T {x : Cond} {ws : List Cond} (h : ∀ w ∈ ws, w ∈ wsT) : GoodIn (x :: wsT) ws := fun w hw => ⟨List.mem_cons_of_mem _ (h w hw), (wsT_in w (h w hw)).2⟩
theorem gd_L {ws : List Cond} (h : ∀ w ∈ ws, w ∈ wsT) : GoodIn lw_tbl ws := fun w hw => wsT_in w (h w hw)
theorem gd_V2 {B T : List Cond} {l i s n c : Cond} (hT : ∀ w ∈ T, w ∈ B) (h1 : l ∈ B) (h2 : i ∈ B) (h3 : s ∈ B) (h4 : n ∈ B) (h5 : c ∈ B) : ∀ w ∈ ([l, i, s, n] ++ (c :: T) : List Cond), w ∈ B := by
  intro w hw
  simp only [List.cons_append, List.nil_append, List.mem_cons] at hw
  rcases hw with rfl | rfl | rfl | rfl | rfl | h
  · exact h1
  · exact h2
  · exact h3
  · exact h4
  · exact h5
  · exact hT w h
theorem gd_S2 {B T : List Cond} {l s n c : Cond} (hT : ∀ w ∈ T, w ∈ B) (h1 : l ∈ B) (h3 : s ∈ B) (h4 : n ∈ B) (h5 : c ∈ B) : ∀ w ∈ ([l, s, n] ++ (c :: T) : List Cond), w ∈ B := by
  intro w hw
  simp only [List.cons_append, List.nil_append, List.mem_cons] at hw
  rcases hw with rfl | rfl | rfl | rfl | h
  · exact h1
  · exact h3
  · exact h4
  · exact h5
  · exact hT w h
theorem wK_0 : (.classLink RL 11 RX11 : Cond) ∈ wsT := wsK_T _ (List.mem_append_left _ (List.mem_of_getElem? (l := wsK_0) (i := 0) rfl))
theorem wK_1 : (.instantiable RX11 1 : Cond) ∈ wsT := wsK_T _ (List.mem_append_left _ (List.mem_of_getElem? (l := wsK_0) (i := 1) rfl))
theorem wK_2 : (.arrayClass .int : Cond) ∈ wsT := wsK_T _ (List.mem_append_left _ (List.mem_of_getElem? (l := wsK_0) (i := 2) rfl))
theorem wK_3 : (.methodLink RL 180 yX11_init : Cond) ∈ wsT := wsK_T _ (List.mem_append_left _ (List.mem_of_getElem? (l := wsK_0) (i := 3) rfl))
theorem wK_4 : (.instanceMethod yX11_init : Cond) ∈ wsT := wsK_T _ (List.mem_append_left _ (List.mem_of_getElem? (l := wsK_0) (i := 4) rfl))
theorem wK_5 : (.code yX11_init cX11_init 1 none : Cond) ∈ wsT := wsK_T _ (List.mem_append_left _ (List.mem_of_getElem? (l := wsK_0) (i := 5) rfl))
theorem wK_6 : (.methodLink RL 118 yX11_payments : Cond) ∈ wsT := wsK_T _ (List.mem_append_left _ (List.mem_of_getElem? (l := wsK_0) (i := 6) rfl))
theorem wK_7 : (.instanceMethod yX11_payments : Cond) ∈ wsT := wsK_T _ (List.mem_append_left _ (List.mem_of_getElem? (l := wsK_0) (i := 7) rfl))
theorem wK_8 : (.selects RX11 yX11_payments yX11_payments : Cond) ∈ wsT := wsK_T _ (List.mem_append_left _ (List.mem_of_getElem? (l := wsK_0) (i := 8) rfl))
theorem wK_9 : (.code yX11_payments cX11_payments 1 (some .int) : Cond) ∈ wsT := wsK_T _ (List.mem_append_left _ (List.mem_of_getElem? (l := wsK_0) (i := 9) rfl))
theorem wK_10 : (.methodLink RL 181 yL_at : Cond) ∈ wsT := wsK_T _ (List.mem_append_left _ (List.mem_of_getElem? (l := wsK_0) (i := 10) rfl))
theorem wK_11 : (.static yL_at : Cond) ∈ wsT := wsK_T _ (List.mem_append_left _ (List.mem_of_getElem? (l := wsK_0) (i := 11) rfl))
theorem wK_12 : (.initialized RL : Cond) ∈ wsT := wsK_T _ (List.mem_append_left _ (List.mem_of_getElem? (l := wsK_0) (i := 12) rfl))
theorem wK_13 : (.code yL_at cL_at 2 (some .int) : Cond) ∈ wsT := wsK_T _ (List.mem_append_left _ (List.mem_of_getElem? (l := wsK_0) (i := 13) rfl))
theorem wK_14 : (.constant RL 7 (1239799739) : Cond) ∈ wsT := wsK_T _ (List.mem_append_left _ (List.mem_of_getElem? (l := wsK_0) (i := 14) rfl))
theorem wK_15 : (.constant RL 8 (1640212981) : Cond) ∈ wsT := wsK_T _ (List.mem_append_left _ (List.mem_of_getElem? (l := wsK_0) (i := 15) rfl))
theorem wK_16 : (.methodLink RL 107 yL_low : Cond) ∈ wsT := wsK_T _ (List.mem_append_left _ (List.mem_of_getElem? (l := wsK_0) (i := 16) rfl))
theorem wK_17 : (.static yL_low : Cond) ∈ wsT := wsK_T _ (List.mem_append_left _ (List.mem_of_getElem? (l := wsK_0) (i := 17) rfl))
theorem wK_18 : (.code yL_low cL_low 2 (some .int) : Cond) ∈ wsT := wsK_T _ (List.mem_append_left _ (List.mem_of_getElem? (l := wsK_0) (i := 18) rfl))
theorem wK_19 : (.constant RL 9 (2147483647) : Cond) ∈ wsT := wsK_T _ (List.mem_append_left _ (List.mem_of_getElem? (l := wsK_0) (i := 19) rfl))
theorem wK_20 : (.methodLink RL 185 yL_sends : Cond) ∈ wsT := wsK_T _ (List.mem_append_left _ (List.mem_of_getElem? (l := wsK_0) (i := 20) rfl))
theorem wK_21 : (.static yL_sends : Cond) ∈ wsT := wsK_T _ (List.mem_append_left _ (List.mem_of_getElem? (l := wsK_0) (i := 21) rfl))
theorem wK_22 : (.constant RL 44 (-1000003) : Cond) ∈ wsT := wsK_T _ (List.mem_append_left _ (List.mem_of_getElem? (l := wsK_0) (i := 22) rfl))
theorem wK_23 : (.methodLink RL 112 yX11_doubles : Cond) ∈ wsT := wsK_T _ (List.mem_append_left _ (List.mem_of_getElem? (l := wsK_0) (i := 23) rfl))
theorem wK_24 : (.instanceMethod yX11_doubles : Cond) ∈ wsT := wsK_T _ (List.mem_append_left _ (List.mem_of_getElem? (l := wsK_0) (i := 24) rfl))
theorem wK_25 : (.selects RX11 yX11_doubles yX11_doubles : Cond) ∈ wsT := wsK_T _ (List.mem_append_right _ (List.mem_append_left _ (List.mem_of_getElem? (l := wsK_1) (i := 0) rfl)))
theorem wK_26 : (.code yX11_doubles cX11_doubles 1 (some .int) : Cond) ∈ wsT := wsK_T _ (List.mem_append_right _ (List.mem_append_left _ (List.mem_of_getElem? (l := wsK_1) (i := 1) rfl)))
theorem wK_27 : (.methodLink RL 115 yL_send : Cond) ∈ wsT := wsK_T _ (List.mem_append_right _ (List.mem_append_left _ (List.mem_of_getElem? (l := wsK_1) (i := 2) rfl)))
theorem wK_28 : (.static yL_send : Cond) ∈ wsT := wsK_T _ (List.mem_append_right _ (List.mem_append_left _ (List.mem_of_getElem? (l := wsK_1) (i := 3) rfl)))
theorem wK_29 : (.codeWith yL_send cL_send 12 (some .int) [(0, 21, 22, 16), (0, 21, 27, 19), (0, 21, 32, 42)] : Cond) ∈ wsT := wsK_T _ (List.mem_append_right _ (List.mem_append_left _ (List.mem_of_getElem? (l := wsK_1) (i := 4) rfl)))
theorem wK_30 : (.classLink RL 16 "java/lang/IndexOutOfBoundsException" : Cond) ∈ wsT := wsK_T _ (List.mem_append_right _ (List.mem_append_left _ (List.mem_of_getElem? (l := wsK_1) (i := 5) rfl)))
theorem wK_31 : (.classLink RL 19 "java/lang/IllegalArgumentException" : Cond) ∈ wsT := wsK_T _ (List.mem_append_right _ (List.mem_append_left _ (List.mem_of_getElem? (l := wsK_1) (i := 6) rfl)))
theorem wK_32 : (.classLink RL 42 "java/lang/IllegalStateException" : Cond) ∈ wsT := wsK_T _ (List.mem_append_right _ (List.mem_append_left _ (List.mem_of_getElem? (l := wsK_1) (i := 7) rfl)))
theorem wK_33 : (.constant RL 18 (-1000001) : Cond) ∈ wsT := wsK_T _ (List.mem_append_right _ (List.mem_append_left _ (List.mem_of_getElem? (l := wsK_1) (i := 8) rfl)))
theorem wK_34 : (.constant RL 21 (-1000002) : Cond) ∈ wsT := wsK_T _ (List.mem_append_right _ (List.mem_append_left _ (List.mem_of_getElem? (l := wsK_1) (i := 9) rfl)))
theorem wK_35 : (.methodLink RL 38 yX11_send : Cond) ∈ wsT := wsK_T _ (List.mem_append_right _ (List.mem_append_left _ (List.mem_of_getElem? (l := wsK_1) (i := 10) rfl)))
theorem wK_36 : (.instanceMethod yX11_send : Cond) ∈ wsT := wsK_T _ (List.mem_append_right _ (List.mem_append_left _ (List.mem_of_getElem? (l := wsK_1) (i := 11) rfl)))
theorem wK_37 : (.selects RX11 yX11_send yX11_send : Cond) ∈ wsT := wsK_T _ (List.mem_append_right _ (List.mem_append_left _ (List.mem_of_getElem? (l := wsK_1) (i := 12) rfl)))
theorem wK_38 : (.code yX11_send cX11_send 14 (some .int) : Cond) ∈ wsT := wsK_T _ (List.mem_append_right _ (List.mem_append_left _ (List.mem_of_getElem? (l := wsK_1) (i := 13) rfl)))
theorem wK_39 : (.methodLink RL 189 yL_changes : Cond) ∈ wsT := wsK_T _ (List.mem_append_right _ (List.mem_append_left _ (List.mem_of_getElem? (l := wsK_1) (i := 14) rfl)))
theorem wK_40 : (.static yL_changes : Cond) ∈ wsT := wsK_T _ (List.mem_append_right _ (List.mem_append_left _ (List.mem_of_getElem? (l := wsK_1) (i := 15) rfl)))
theorem wK_41 : (.methodLink RL 121 yL_fund : Cond) ∈ wsT := wsK_T _ (List.mem_append_right _ (List.mem_append_left _ (List.mem_of_getElem? (l := wsK_1) (i := 16) rfl)))
theorem wK_42 : (.static yL_fund : Cond) ∈ wsT := wsK_T _ (List.mem_append_right _ (List.mem_append_left _ (List.mem_of_getElem? (l := wsK_1) (i := 17) rfl)))
theorem wK_43 : (.codeWith yL_fund cL_fund 5 (some .long) [(0, 7, 8, 16), (0, 7, 14, 19)] : Cond) ∈ wsT := wsK_T _ (List.mem_append_right _ (List.mem_append_left _ (List.mem_of_getElem? (l := wsK_1) (i := 18) rfl)))
theorem wK_44 : (.constantLong RL 90 (-10000001) : Cond) ∈ wsT := wsK_T _ (List.mem_append_right _ (List.mem_append_left _ (List.mem_of_getElem? (l := wsK_1) (i := 19) rfl)))
theorem wK_45 : (.constantLong RL 92 (-10000002) : Cond) ∈ wsT := wsK_T _ (List.mem_append_right _ (List.mem_append_left _ (List.mem_of_getElem? (l := wsK_1) (i := 20) rfl)))
theorem wK_46 : (.methodLink RL 86 yX11_fund : Cond) ∈ wsT := wsK_T _ (List.mem_append_right _ (List.mem_append_left _ (List.mem_of_getElem? (l := wsK_1) (i := 21) rfl)))
theorem wK_47 : (.instanceMethod yX11_fund : Cond) ∈ wsT := wsK_T _ (List.mem_append_right _ (List.mem_append_left _ (List.mem_of_getElem? (l := wsK_1) (i := 22) rfl)))
theorem wK_48 : (.selects RX11 yX11_fund yX11_fund : Cond) ∈ wsT := wsK_T _ (List.mem_append_right _ (List.mem_append_left _ (List.mem_of_getElem? (l := wsK_1) (i := 23) rfl)))
theorem wK_49 : (.code yX11_fund cX11_fund 4 (some .long) : Cond) ∈ wsT := wsK_T _ (List.mem_append_right _ (List.mem_append_left _ (List.mem_of_getElem? (l := wsK_1) (i := 24) rfl)))
theorem wK_50 : (.methodLink RL 124 yL_account : Cond) ∈ wsT := wsK_T _ (List.mem_append_right _ (List.mem_append_right _ (List.mem_append_left _ (List.mem_of_getElem? (l := wsK_2) (i := 0) rfl))))
theorem wK_51 : (.static yL_account : Cond) ∈ wsT := wsK_T _ (List.mem_append_right _ (List.mem_append_right _ (List.mem_append_left _ (List.mem_of_getElem? (l := wsK_2) (i := 1) rfl))))
theorem wK_52 : (.codeWith yL_account cL_account 4 (some .long) [(0, 6, 7, 16)] : Cond) ∈ wsT := wsK_T _ (List.mem_append_right _ (List.mem_append_right _ (List.mem_append_left _ (List.mem_of_getElem? (l := wsK_2) (i := 2) rfl))))
theorem wK_53 : (.methodLink RL 94 yX11_account : Cond) ∈ wsT := wsK_T _ (List.mem_append_right _ (List.mem_append_right _ (List.mem_append_left _ (List.mem_of_getElem? (l := wsK_2) (i := 3) rfl))))
theorem wK_54 : (.instanceMethod yX11_account : Cond) ∈ wsT := wsK_T _ (List.mem_append_right _ (List.mem_append_right _ (List.mem_append_left _ (List.mem_of_getElem? (l := wsK_2) (i := 4) rfl))))
theorem wK_55 : (.selects RX11 yX11_account yX11_account : Cond) ∈ wsT := wsK_T _ (List.mem_append_right _ (List.mem_append_right _ (List.mem_append_left _ (List.mem_of_getElem? (l := wsK_2) (i := 5) rfl))))
theorem wK_56 : (.code yX11_account cX11_account 3 (some .long) : Cond) ∈ wsT := wsK_T _ (List.mem_append_right _ (List.mem_append_right _ (List.mem_append_left _ (List.mem_of_getElem? (l := wsK_2) (i := 6) rfl))))
theorem wK_57 : (.methodLink RL 127 yL_line : Cond) ∈ wsT := wsK_T _ (List.mem_append_right _ (List.mem_append_right _ (List.mem_append_left _ (List.mem_of_getElem? (l := wsK_2) (i := 7) rfl))))
theorem wK_58 : (.static yL_line : Cond) ∈ wsT := wsK_T _ (List.mem_append_right _ (List.mem_append_right _ (List.mem_append_left _ (List.mem_of_getElem? (l := wsK_2) (i := 8) rfl))))
theorem wK_59 : (.codeWith yL_line cL_line 5 (some .int) [(0, 7, 8, 16), (0, 7, 13, 19)] : Cond) ∈ wsT := wsK_T _ (List.mem_append_right _ (List.mem_append_right _ (List.mem_append_left _ (List.mem_of_getElem? (l := wsK_2) (i := 9) rfl))))
theorem wK_60 : (.methodLink RL 10 yX11_line : Cond) ∈ wsT := wsK_T _ (List.mem_append_right _ (List.mem_append_right _ (List.mem_append_left _ (List.mem_of_getElem? (l := wsK_2) (i := 10) rfl))))
theorem wK_61 : (.instanceMethod yX11_line : Cond) ∈ wsT := wsK_T _ (List.mem_append_right _ (List.mem_append_right _ (List.mem_append_left _ (List.mem_of_getElem? (l := wsK_2) (i := 11) rfl))))
theorem wK_62 : (.selects RX11 yX11_line yX11_line : Cond) ∈ wsT := wsK_T _ (List.mem_append_right _ (List.mem_append_right _ (List.mem_append_left _ (List.mem_of_getElem? (l := wsK_2) (i := 12) rfl))))
theorem wK_63 : (.code yX11_line cX11_line 5 (some .int) : Cond) ∈ wsT := wsK_T _ (List.mem_append_right _ (List.mem_append_right _ (List.mem_append_left _ (List.mem_of_getElem? (l := wsK_2) (i := 13) rfl))))
theorem wK_64 : (.methodLink RL 130 yL_limit : Cond) ∈ wsT := wsK_T _ (List.mem_append_right _ (List.mem_append_right _ (List.mem_append_left _ (List.mem_of_getElem? (l := wsK_2) (i := 14) rfl))))
theorem wK_65 : (.static yL_limit : Cond) ∈ wsT := wsK_T _ (List.mem_append_right _ (List.mem_append_right _ (List.mem_append_left _ (List.mem_of_getElem? (l := wsK_2) (i := 15) rfl))))
theorem wK_66 : (.codeWith yL_limit cL_limit 6 (some .int) [(0, 9, 10, 16), (0, 9, 15, 19)] : Cond) ∈ wsT := wsK_T _ (List.mem_append_right _ (List.mem_append_right _ (List.mem_append_left _ (List.mem_of_getElem? (l := wsK_2) (i := 16) rfl))))
theorem wK_67 : (.methodLink RL 22 yX11_limit : Cond) ∈ wsT := wsK_T _ (List.mem_append_right _ (List.mem_append_right _ (List.mem_append_left _ (List.mem_of_getElem? (l := wsK_2) (i := 17) rfl))))
theorem wK_68 : (.instanceMethod yX11_limit : Cond) ∈ wsT := wsK_T _ (List.mem_append_right _ (List.mem_append_right _ (List.mem_append_left _ (List.mem_of_getElem? (l := wsK_2) (i := 18) rfl))))
theorem wK_69 : (.selects RX11 yX11_limit yX11_limit : Cond) ∈ wsT := wsK_T _ (List.mem_append_right _ (List.mem_append_right _ (List.mem_append_left _ (List.mem_of_getElem? (l := wsK_2) (i := 19) rfl))))
theorem wK_70 : (.code yX11_limit cX11_limit 6 (some .int) : Cond) ∈ wsT := wsK_T _ (List.mem_append_right _ (List.mem_append_right _ (List.mem_append_left _ (List.mem_of_getElem? (l := wsK_2) (i := 20) rfl))))
theorem wK_71 : (.methodLink RL 133 yL_out : Cond) ∈ wsT := wsK_T _ (List.mem_append_right _ (List.mem_append_right _ (List.mem_append_left _ (List.mem_of_getElem? (l := wsK_2) (i := 21) rfl))))
theorem wK_72 : (.static yL_out : Cond) ∈ wsT := wsK_T _ (List.mem_append_right _ (List.mem_append_right _ (List.mem_append_left _ (List.mem_of_getElem? (l := wsK_2) (i := 22) rfl))))
theorem wK_73 : (.codeWith yL_out cL_out 4 (some .int) [(0, 14, 15, 16)] : Cond) ∈ wsT := wsK_T _ (List.mem_append_right _ (List.mem_append_right _ (List.mem_append_left _ (List.mem_of_getElem? (l := wsK_2) (i := 23) rfl))))
theorem wK_74 : (.methodLink RL 26 yX11_out : Cond) ∈ wsT := wsK_T _ (List.mem_append_right _ (List.mem_append_right _ (List.mem_append_left _ (List.mem_of_getElem? (l := wsK_2) (i := 24) rfl))))
theorem wK_75 : (.instanceMethod yX11_out : Cond) ∈ wsT := wsK_T _ (List.mem_append_right _ (List.mem_append_right _ (List.mem_append_right _ (List.mem_append_left _ (List.mem_of_getElem? (l := wsK_3) (i := 0) rfl)))))
theorem wK_76 : (.selects RX11 yX11_out yX11_out : Cond) ∈ wsT := wsK_T _ (List.mem_append_right _ (List.mem_append_right _ (List.mem_append_right _ (List.mem_append_left _ (List.mem_of_getElem? (l := wsK_3) (i := 1) rfl)))))
theorem wK_77 : (.code yX11_out cX11_out 4 (some .boolean) : Cond) ∈ wsT := wsK_T _ (List.mem_append_right _ (List.mem_append_right _ (List.mem_append_right _ (List.mem_append_left _ (List.mem_of_getElem? (l := wsK_3) (i := 2) rfl)))))
theorem wK_78 : (.methodLink RL 136 yL_holiday : Cond) ∈ wsT := wsK_T _ (List.mem_append_right _ (List.mem_append_right _ (List.mem_append_right _ (List.mem_append_left _ (List.mem_of_getElem? (l := wsK_3) (i := 3) rfl)))))
theorem wK_79 : (.static yL_holiday : Cond) ∈ wsT := wsK_T _ (List.mem_append_right _ (List.mem_append_right _ (List.mem_append_right _ (List.mem_append_left _ (List.mem_of_getElem? (l := wsK_3) (i := 4) rfl)))))
theorem wK_80 : (.codeWith yL_holiday cL_holiday 5 (some .int) [(0, 15, 16, 16), (0, 15, 21, 19)] : Cond) ∈ wsT := wsK_T _ (List.mem_append_right _ (List.mem_append_right _ (List.mem_append_right _ (List.mem_append_left _ (List.mem_of_getElem? (l := wsK_3) (i := 5) rfl)))))
theorem wK_81 : (.methodLink RL 30 yX11_holiday : Cond) ∈ wsT := wsK_T _ (List.mem_append_right _ (List.mem_append_right _ (List.mem_append_right _ (List.mem_append_left _ (List.mem_of_getElem? (l := wsK_3) (i := 6) rfl)))))
theorem wK_82 : (.instanceMethod yX11_holiday : Cond) ∈ wsT := wsK_T _ (List.mem_append_right _ (List.mem_append_right _ (List.mem_append_right _ (List.mem_append_left _ (List.mem_of_getElem? (l := wsK_3) (i := 7) rfl)))))
theorem wK_83 : (.selects RX11 yX11_holiday yX11_holiday : Cond) ∈ wsT := wsK_T _ (List.mem_append_right _ (List.mem_append_right _ (List.mem_append_right _ (List.mem_append_left _ (List.mem_of_getElem? (l := wsK_3) (i := 8) rfl)))))
theorem wK_84 : (.code yX11_holiday cX11_holiday 4 (some .boolean) : Cond) ∈ wsT := wsK_T _ (List.mem_append_right _ (List.mem_append_right _ (List.mem_append_right _ (List.mem_append_left _ (List.mem_of_getElem? (l := wsK_3) (i := 9) rfl)))))
theorem wK_85 : (.methodLink RL 139 yL_list : Cond) ∈ wsT := wsK_T _ (List.mem_append_right _ (List.mem_append_right _ (List.mem_append_right _ (List.mem_append_left _ (List.mem_of_getElem? (l := wsK_3) (i := 10) rfl)))))
theorem wK_86 : (.static yL_list : Cond) ∈ wsT := wsK_T _ (List.mem_append_right _ (List.mem_append_right _ (List.mem_append_right _ (List.mem_append_left _ (List.mem_of_getElem? (l := wsK_3) (i := 11) rfl)))))
theorem wK_87 : (.codeWith yL_list cL_list 4 (some .int) [(0, 6, 7, 16)] : Cond) ∈ wsT := wsK_T _ (List.mem_append_right _ (List.mem_append_right _ (List.mem_append_right _ (List.mem_append_left _ (List.mem_of_getElem? (l := wsK_3) (i := 12) rfl)))))
theorem wK_88 : (.methodLink RL 34 yX11_list : Cond) ∈ wsT := wsK_T _ (List.mem_append_right _ (List.mem_append_right _ (List.mem_append_right _ (List.mem_append_left _ (List.mem_of_getElem? (l := wsK_3) (i := 13) rfl)))))
theorem wK_89 : (.instanceMethod yX11_list : Cond) ∈ wsT := wsK_T _ (List.mem_append_right _ (List.mem_append_right _ (List.mem_append_right _ (List.mem_append_left _ (List.mem_of_getElem? (l := wsK_3) (i := 14) rfl)))))
theorem wK_90 : (.selects RX11 yX11_list yX11_list : Cond) ∈ wsT := wsK_T _ (List.mem_append_right _ (List.mem_append_right _ (List.mem_append_right _ (List.mem_append_left _ (List.mem_of_getElem? (l := wsK_3) (i := 15) rfl)))))
theorem wK_91 : (.code yX11_list cX11_list 4 (some .int) : Cond) ∈ wsT := wsK_T _ (List.mem_append_right _ (List.mem_append_right _ (List.mem_append_right _ (List.mem_append_left _ (List.mem_of_getElem? (l := wsK_3) (i := 16) rfl)))))
theorem wK_92 : (.methodLink RL 141 yL_join : Cond) ∈ wsT := wsK_T _ (List.mem_append_right _ (List.mem_append_right _ (List.mem_append_right _ (List.mem_append_left _ (List.mem_of_getElem? (l := wsK_3) (i := 17) rfl)))))
theorem wK_93 : (.static yL_join : Cond) ∈ wsT := wsK_T _ (List.mem_append_right _ (List.mem_append_right _ (List.mem_append_right _ (List.mem_append_left _ (List.mem_of_getElem? (l := wsK_3) (i := 18) rfl)))))
theorem wK_94 : (.codeWith yL_join cL_join 4 (some .int) [(0, 7, 8, 16), (0, 7, 12, 42)] : Cond) ∈ wsT := wsK_T _ (List.mem_append_right _ (List.mem_append_right _ (List.mem_append_right _ (List.mem_append_left _ (List.mem_of_getElem? (l := wsK_3) (i := 19) rfl)))))
theorem wK_95 : (.methodLink RL 45 yX11_join : Cond) ∈ wsT := wsK_T _ (List.mem_append_right _ (List.mem_append_right _ (List.mem_append_right _ (List.mem_append_left _ (List.mem_of_getElem? (l := wsK_3) (i := 20) rfl)))))
theorem wK_96 : (.instanceMethod yX11_join : Cond) ∈ wsT := wsK_T _ (List.mem_append_right _ (List.mem_append_right _ (List.mem_append_right _ (List.mem_append_left _ (List.mem_of_getElem? (l := wsK_3) (i := 21) rfl)))))
theorem wK_97 : (.selects RX11 yX11_join yX11_join : Cond) ∈ wsT := wsK_T _ (List.mem_append_right _ (List.mem_append_right _ (List.mem_append_right _ (List.mem_append_left _ (List.mem_of_getElem? (l := wsK_3) (i := 22) rfl)))))
theorem wK_98 : (.code yX11_join cX11_join 5 none : Cond) ∈ wsT := wsK_T _ (List.mem_append_right _ (List.mem_append_right _ (List.mem_append_right _ (List.mem_append_left _ (List.mem_of_getElem? (l := wsK_3) (i := 23) rfl)))))
theorem wK_99 : (.methodLink RL 144 yL_stateOf : Cond) ∈ wsT := wsK_T _ (List.mem_append_right _ (List.mem_append_right _ (List.mem_append_right _ (List.mem_append_left _ (List.mem_of_getElem? (l := wsK_3) (i := 24) rfl)))))
theorem wK_100 : (.static yL_stateOf : Cond) ∈ wsT := wsK_T _ (List.mem_append_right _ (List.mem_append_right _ (List.mem_append_right _ (List.mem_append_right _ (List.mem_append_left _ (List.mem_of_getElem? (l := wsK_4) (i := 0) rfl))))))
theorem wK_101 : (.codeWith yL_stateOf cL_stateOf 3 (some .int) [(0, 5, 6, 16)] : Cond) ∈ wsT := wsK_T _ (List.mem_append_right _ (List.mem_append_right _ (List.mem_append_right _ (List.mem_append_right _ (List.mem_append_left _ (List.mem_of_getElem? (l := wsK_4) (i := 1) rfl))))))
theorem wK_102 : (.methodLink RL 73 yX11_stateOf : Cond) ∈ wsT := wsK_T _ (List.mem_append_right _ (List.mem_append_right _ (List.mem_append_right _ (List.mem_append_right _ (List.mem_append_left _ (List.mem_of_getElem? (l := wsK_4) (i := 2) rfl))))))
theorem wK_103 : (.instanceMethod yX11_stateOf : Cond) ∈ wsT := wsK_T _ (List.mem_append_right _ (List.mem_append_right _ (List.mem_append_right _ (List.mem_append_right _ (List.mem_append_left _ (List.mem_of_getElem? (l := wsK_4) (i := 3) rfl))))))
theorem wK_104 : (.selects RX11 yX11_stateOf yX11_stateOf : Cond) ∈ wsT := wsK_T _ (List.mem_append_right _ (List.mem_append_right _ (List.mem_append_right _ (List.mem_append_right _ (List.mem_append_left _ (List.mem_of_getElem? (l := wsK_4) (i := 4) rfl))))))
theorem wK_105 : (.code yX11_stateOf cX11_stateOf 2 (some .int) : Cond) ∈ wsT := wsK_T _ (List.mem_append_right _ (List.mem_append_right _ (List.mem_append_right _ (List.mem_append_right _ (List.mem_append_left _ (List.mem_of_getElem? (l := wsK_4) (i := 5) rfl))))))
theorem wK_106 : (.methodLink RL 147 yL_withdraw : Cond) ∈ wsT := wsK_T _ (List.mem_append_right _ (List.mem_append_right _ (List.mem_append_right _ (List.mem_append_right _ (List.mem_append_left _ (List.mem_of_getElem? (l := wsK_4) (i := 6) rfl))))))
theorem wK_107 : (.static yL_withdraw : Cond) ∈ wsT := wsK_T _ (List.mem_append_right _ (List.mem_append_right _ (List.mem_append_right _ (List.mem_append_right _ (List.mem_append_left _ (List.mem_of_getElem? (l := wsK_4) (i := 7) rfl))))))
theorem wK_108 : (.codeWith yL_withdraw cL_withdraw 3 (some .int) [(0, 5, 6, 16), (0, 5, 10, 42)] : Cond) ∈ wsT := wsK_T _ (List.mem_append_right _ (List.mem_append_right _ (List.mem_append_right _ (List.mem_append_right _ (List.mem_append_left _ (List.mem_of_getElem? (l := wsK_4) (i := 8) rfl))))))
theorem wK_109 : (.methodLink RL 49 yX11_withdraw : Cond) ∈ wsT := wsK_T _ (List.mem_append_right _ (List.mem_append_right _ (List.mem_append_right _ (List.mem_append_right _ (List.mem_append_left _ (List.mem_of_getElem? (l := wsK_4) (i := 9) rfl))))))
theorem wK_110 : (.instanceMethod yX11_withdraw : Cond) ∈ wsT := wsK_T _ (List.mem_append_right _ (List.mem_append_right _ (List.mem_append_right _ (List.mem_append_right _ (List.mem_append_left _ (List.mem_of_getElem? (l := wsK_4) (i := 10) rfl))))))
theorem wK_111 : (.selects RX11 yX11_withdraw yX11_withdraw : Cond) ∈ wsT := wsK_T _ (List.mem_append_right _ (List.mem_append_right _ (List.mem_append_right _ (List.mem_append_right _ (List.mem_append_left _ (List.mem_of_getElem? (l := wsK_4) (i := 11) rfl))))))
theorem wK_112 : (.code yX11_withdraw cX11_withdraw 4 (some .int) : Cond) ∈ wsT := wsK_T _ (List.mem_append_right _ (List.mem_append_right _ (List.mem_append_right _ (List.mem_append_right _ (List.mem_append_left _ (List.mem_of_getElem? (l := wsK_4) (i := 12) rfl))))))
theorem wK_113 : (.methodLink RL 149 yL_refuse : Cond) ∈ wsT := wsK_T _ (List.mem_append_right _ (List.mem_append_right _ (List.mem_append_right _ (List.mem_append_right _ (List.mem_append_left _ (List.mem_of_getElem? (l := wsK_4) (i := 13) rfl))))))
theorem wK_114 : (.static yL_refuse : Cond) ∈ wsT := wsK_T _ (List.mem_append_right _ (List.mem_append_right _ (List.mem_append_right _ (List.mem_append_right _ (List.mem_append_left _ (List.mem_of_getElem? (l := wsK_4) (i := 14) rfl))))))
theorem wK_115 : (.codeWith yL_refuse cL_refuse 3 (some .int) [(0, 5, 6, 16), (0, 5, 10, 42)] : Cond) ∈ wsT := wsK_T _ (List.mem_append_right _ (List.mem_append_right _ (List.mem_append_right _ (List.mem_append_right _ (List.mem_append_left _ (List.mem_of_getElem? (l := wsK_4) (i := 15) rfl))))))
theorem wK_116 : (.methodLink RL 57 yX11_refuse : Cond) ∈ wsT := wsK_T _ (List.mem_append_right _ (List.mem_append_right _ (List.mem_append_right _ (List.mem_append_right _ (List.mem_append_left _ (List.mem_of_getElem? (l := wsK_4) (i := 16) rfl))))))
theorem wK_117 : (.instanceMethod yX11_refuse : Cond) ∈ wsT := wsK_T _ (List.mem_append_right _ (List.mem_append_right _ (List.mem_append_right _ (List.mem_append_right _ (List.mem_append_left _ (List.mem_of_getElem? (l := wsK_4) (i := 17) rfl))))))
theorem wK_118 : (.selects RX11 yX11_refuse yX11_refuse : Cond) ∈ wsT := wsK_T _ (List.mem_append_right _ (List.mem_append_right _ (List.mem_append_right _ (List.mem_append_right _ (List.mem_append_left _ (List.mem_of_getElem? (l := wsK_4) (i := 18) rfl))))))
theorem wK_119 : (.code yX11_refuse cX11_refuse 4 (some .int) : Cond) ∈ wsT := wsK_T _ (List.mem_append_right _ (List.mem_append_right _ (List.mem_append_right _ (List.mem_append_right _ (List.mem_append_left _ (List.mem_of_getElem? (l := wsK_4) (i := 19) rfl))))))
theorem wK_120 : (.methodLink RL 151 yL_release : Cond) ∈ wsT := wsK_T _ (List.mem_append_right _ (List.mem_append_right _ (List.mem_append_right _ (List.mem_append_right _ (List.mem_append_left _ (List.mem_of_getElem? (l := wsK_4) (i := 20) rfl))))))
theorem wK_121 : (.static yL_release : Cond) ∈ wsT := wsK_T _ (List.mem_append_right _ (List.mem_append_right _ (List.mem_append_right _ (List.mem_append_right _ (List.mem_append_left _ (List.mem_of_getElem? (l := wsK_4) (i := 21) rfl))))))
theorem wK_122 : (.codeWith yL_release cL_release 4 (some .int) [(0, 14, 15, 16), (0, 14, 19, 42)] : Cond) ∈ wsT := wsK_T _ (List.mem_append_right _ (List.mem_append_right _ (List.mem_append_right _ (List.mem_append_right _ (List.mem_append_left _ (List.mem_of_getElem? (l := wsK_4) (i := 22) rfl))))))
theorem wK_123 : (.methodLink RL 53 yX11_release : Cond) ∈ wsT := wsK_T _ (List.mem_append_right _ (List.mem_append_right _ (List.mem_append_right _ (List.mem_append_right _ (List.mem_append_left _ (List.mem_of_getElem? (l := wsK_4) (i := 23) rfl))))))
theorem wK_124 : (.instanceMethod yX11_release : Cond) ∈ wsT := wsK_T _ (List.mem_append_right _ (List.mem_append_right _ (List.mem_append_right _ (List.mem_append_right _ (List.mem_append_left _ (List.mem_of_getElem? (l := wsK_4) (i := 24) rfl))))))
theorem wK_125 : (.selects RX11 yX11_release yX11_release : Cond) ∈ wsT := wsK_T _ (List.mem_append_right _ (List.mem_append_right _ (List.mem_append_right _ (List.mem_append_right _ (List.mem_append_right _ (List.mem_append_left _ (List.mem_of_getElem? (l := wsK_5) (i := 0) rfl)))))))
theorem wK_126 : (.code yX11_release cX11_release 5 (some .boolean) : Cond) ∈ wsT := wsK_T _ (List.mem_append_right _ (List.mem_append_right _ (List.mem_append_right _ (List.mem_append_right _ (List.mem_append_right _ (List.mem_append_left _ (List.mem_of_getElem? (l := wsK_5) (i := 1) rfl)))))))
theorem wK_127 : (.methodLink RL 153 yL_offset : Cond) ∈ wsT := wsK_T _ (List.mem_append_right _ (List.mem_append_right _ (List.mem_append_right _ (List.mem_append_right _ (List.mem_append_right _ (List.mem_append_left _ (List.mem_of_getElem? (l := wsK_5) (i := 2) rfl)))))))
theorem wK_128 : (.static yL_offset : Cond) ∈ wsT := wsK_T _ (List.mem_append_right _ (List.mem_append_right _ (List.mem_append_right _ (List.mem_append_right _ (List.mem_append_right _ (List.mem_append_left _ (List.mem_of_getElem? (l := wsK_5) (i := 3) rfl)))))))
theorem wK_129 : (.codeWith yL_offset cL_offset 3 (some .int) [(0, 5, 6, 16)] : Cond) ∈ wsT := wsK_T _ (List.mem_append_right _ (List.mem_append_right _ (List.mem_append_right _ (List.mem_append_right _ (List.mem_append_right _ (List.mem_append_left _ (List.mem_of_getElem? (l := wsK_5) (i := 4) rfl)))))))
theorem wK_130 : (.methodLink RL 60 yX11_offset : Cond) ∈ wsT := wsK_T _ (List.mem_append_right _ (List.mem_append_right _ (List.mem_append_right _ (List.mem_append_right _ (List.mem_append_right _ (List.mem_append_left _ (List.mem_of_getElem? (l := wsK_5) (i := 5) rfl)))))))
theorem wK_131 : (.instanceMethod yX11_offset : Cond) ∈ wsT := wsK_T _ (List.mem_append_right _ (List.mem_append_right _ (List.mem_append_right _ (List.mem_append_right _ (List.mem_append_right _ (List.mem_append_left _ (List.mem_of_getElem? (l := wsK_5) (i := 6) rfl)))))))
theorem wK_132 : (.selects RX11 yX11_offset yX11_offset : Cond) ∈ wsT := wsK_T _ (List.mem_append_right _ (List.mem_append_right _ (List.mem_append_right _ (List.mem_append_right _ (List.mem_append_right _ (List.mem_append_left _ (List.mem_of_getElem? (l := wsK_5) (i := 7) rfl)))))))
theorem wK_133 : (.code yX11_offset cX11_offset 3 (some .int) : Cond) ∈ wsT := wsK_T _ (List.mem_append_right _ (List.mem_append_right _ (List.mem_append_right _ (List.mem_append_right _ (List.mem_append_right _ (List.mem_append_left _ (List.mem_of_getElem? (l := wsK_5) (i := 8) rfl)))))))
theorem wK_134 : (.methodLink RL 193 yL_goesOn : Cond) ∈ wsT := wsK_T _ (List.mem_append_right _ (List.mem_append_right _ (List.mem_append_right _ (List.mem_append_right _ (List.mem_append_right _ (List.mem_append_left _ (List.mem_of_getElem? (l := wsK_5) (i := 9) rfl)))))))
theorem wK_135 : (.static yL_goesOn : Cond) ∈ wsT := wsK_T _ (List.mem_append_right _ (List.mem_append_right _ (List.mem_append_right _ (List.mem_append_right _ (List.mem_append_right _ (List.mem_append_left _ (List.mem_of_getElem? (l := wsK_5) (i := 10) rfl)))))))
theorem wK_136 : (.methodLink RL 155 yL_endDay : Cond) ∈ wsT := wsK_T _ (List.mem_append_right _ (List.mem_append_right _ (List.mem_append_right _ (List.mem_append_right _ (List.mem_append_right _ (List.mem_append_left _ (List.mem_of_getElem? (l := wsK_5) (i := 11) rfl)))))))
theorem wK_137 : (.static yL_endDay : Cond) ∈ wsT := wsK_T _ (List.mem_append_right _ (List.mem_append_right _ (List.mem_append_right _ (List.mem_append_right _ (List.mem_append_right _ (List.mem_append_left _ (List.mem_of_getElem? (l := wsK_5) (i := 12) rfl)))))))
theorem wK_138 : (.codeWith yL_endDay cL_endDay 2 (some .int) [(0, 4, 5, 42)] : Cond) ∈ wsT := wsK_T _ (List.mem_append_right _ (List.mem_append_right _ (List.mem_append_right _ (List.mem_append_right _ (List.mem_append_right _ (List.mem_append_left _ (List.mem_of_getElem? (l := wsK_5) (i := 13) rfl)))))))
theorem wK_139 : (.methodLink RL 69 yX11_endDay : Cond) ∈ wsT := wsK_T _ (List.mem_append_right _ (List.mem_append_right _ (List.mem_append_right _ (List.mem_append_right _ (List.mem_append_right _ (List.mem_append_left _ (List.mem_of_getElem? (l := wsK_5) (i := 14) rfl)))))))
theorem wK_140 : (.instanceMethod yX11_endDay : Cond) ∈ wsT := wsK_T _ (List.mem_append_right _ (List.mem_append_right _ (List.mem_append_right _ (List.mem_append_right _ (List.mem_append_right _ (List.mem_append_left _ (List.mem_of_getElem? (l := wsK_5) (i := 15) rfl)))))))
theorem wK_141 : (.selects RX11 yX11_endDay yX11_endDay : Cond) ∈ wsT := wsK_T _ (List.mem_append_right _ (List.mem_append_right _ (List.mem_append_right _ (List.mem_append_right _ (List.mem_append_right _ (List.mem_append_left _ (List.mem_of_getElem? (l := wsK_5) (i := 16) rfl)))))))
theorem wK_142 : (.code yX11_endDay cX11_endDay 2 (some .int) : Cond) ∈ wsT := wsK_T _ (List.mem_append_right _ (List.mem_append_right _ (List.mem_append_right _ (List.mem_append_right _ (List.mem_append_right _ (List.mem_append_left _ (List.mem_of_getElem? (l := wsK_5) (i := 17) rfl)))))))
theorem wK_143 : (.methodLink RL 158 yX11_today : Cond) ∈ wsT := wsK_T _ (List.mem_append_right _ (List.mem_append_right _ (List.mem_append_right _ (List.mem_append_right _ (List.mem_append_right _ (List.mem_append_left _ (List.mem_of_getElem? (l := wsK_5) (i := 18) rfl)))))))
theorem wK_144 : (.instanceMethod yX11_today : Cond) ∈ wsT := wsK_T _ (List.mem_append_right _ (List.mem_append_right _ (List.mem_append_right _ (List.mem_append_right _ (List.mem_append_right _ (List.mem_append_left _ (List.mem_of_getElem? (l := wsK_5) (i := 19) rfl)))))))
theorem wK_145 : (.selects RX11 yX11_today yX11_today : Cond) ∈ wsT := wsK_T _ (List.mem_append_right _ (List.mem_append_right _ (List.mem_append_right _ (List.mem_append_right _ (List.mem_append_right _ (List.mem_append_left _ (List.mem_of_getElem? (l := wsK_5) (i := 20) rfl)))))))
theorem wK_146 : (.code yX11_today cX11_today 1 (some .int) : Cond) ∈ wsT := wsK_T _ (List.mem_append_right _ (List.mem_append_right _ (List.mem_append_right _ (List.mem_append_right _ (List.mem_append_right _ (List.mem_append_left _ (List.mem_of_getElem? (l := wsK_5) (i := 21) rfl)))))))
theorem wK_147 : (.methodLink RL 161 yL_recall : Cond) ∈ wsT := wsK_T _ (List.mem_append_right _ (List.mem_append_right _ (List.mem_append_right _ (List.mem_append_right _ (List.mem_append_right _ (List.mem_append_left _ (List.mem_of_getElem? (l := wsK_5) (i := 22) rfl)))))))
theorem wK_148 : (.static yL_recall : Cond) ∈ wsT := wsK_T _ (List.mem_append_right _ (List.mem_append_right _ (List.mem_append_right _ (List.mem_append_right _ (List.mem_append_right _ (List.mem_append_left _ (List.mem_of_getElem? (l := wsK_5) (i := 23) rfl)))))))
theorem wK_149 : (.codeWith yL_recall cL_recall 3 (some .int) [(0, 5, 6, 16), (0, 5, 10, 42)] : Cond) ∈ wsT := wsK_T _ (List.mem_append_right _ (List.mem_append_right _ (List.mem_append_right _ (List.mem_append_right _ (List.mem_append_right _ (List.mem_append_left _ (List.mem_of_getElem? (l := wsK_5) (i := 24) rfl)))))))
theorem wK_150 : (.methodLink RL 63 yX11_recall : Cond) ∈ wsT := wsK_T _ (List.mem_append_right _ (List.mem_append_right _ (List.mem_append_right _ (List.mem_append_right _ (List.mem_append_right _ (List.mem_append_right _ (List.mem_append_left _ (List.mem_of_getElem? (l := wsK_6) (i := 0) rfl))))))))
theorem wK_151 : (.instanceMethod yX11_recall : Cond) ∈ wsT := wsK_T _ (List.mem_append_right _ (List.mem_append_right _ (List.mem_append_right _ (List.mem_append_right _ (List.mem_append_right _ (List.mem_append_right _ (List.mem_append_left _ (List.mem_of_getElem? (l := wsK_6) (i := 1) rfl))))))))
theorem wK_152 : (.selects RX11 yX11_recall yX11_recall : Cond) ∈ wsT := wsK_T _ (List.mem_append_right _ (List.mem_append_right _ (List.mem_append_right _ (List.mem_append_right _ (List.mem_append_right _ (List.mem_append_right _ (List.mem_append_left _ (List.mem_of_getElem? (l := wsK_6) (i := 2) rfl))))))))
theorem wK_153 : (.code yX11_recall cX11_recall 4 (some .int) : Cond) ∈ wsT := wsK_T _ (List.mem_append_right _ (List.mem_append_right _ (List.mem_append_right _ (List.mem_append_right _ (List.mem_append_right _ (List.mem_append_right _ (List.mem_append_left _ (List.mem_of_getElem? (l := wsK_6) (i := 3) rfl))))))))
theorem wK_154 : (.methodLink RL 163 yL_answer : Cond) ∈ wsT := wsK_T _ (List.mem_append_right _ (List.mem_append_right _ (List.mem_append_right _ (List.mem_append_right _ (List.mem_append_right _ (List.mem_append_right _ (List.mem_append_left _ (List.mem_of_getElem? (l := wsK_6) (i := 4) rfl))))))))
theorem wK_155 : (.static yL_answer : Cond) ∈ wsT := wsK_T _ (List.mem_append_right _ (List.mem_append_right _ (List.mem_append_right _ (List.mem_append_right _ (List.mem_append_right _ (List.mem_append_right _ (List.mem_append_left _ (List.mem_of_getElem? (l := wsK_6) (i := 5) rfl))))))))
theorem wK_156 : (.codeWith yL_answer cL_answer 4 (some .int) [(0, 6, 7, 16), (0, 6, 11, 42)] : Cond) ∈ wsT := wsK_T _ (List.mem_append_right _ (List.mem_append_right _ (List.mem_append_right _ (List.mem_append_right _ (List.mem_append_right _ (List.mem_append_right _ (List.mem_append_left _ (List.mem_of_getElem? (l := wsK_6) (i := 6) rfl))))))))
theorem wK_157 : (.methodLink RL 66 yX11_answer : Cond) ∈ wsT := wsK_T _ (List.mem_append_right _ (List.mem_append_right _ (List.mem_append_right _ (List.mem_append_right _ (List.mem_append_right _ (List.mem_append_right _ (List.mem_append_left _ (List.mem_of_getElem? (l := wsK_6) (i := 7) rfl))))))))
theorem wK_158 : (.instanceMethod yX11_answer : Cond) ∈ wsT := wsK_T _ (List.mem_append_right _ (List.mem_append_right _ (List.mem_append_right _ (List.mem_append_right _ (List.mem_append_right _ (List.mem_append_right _ (List.mem_append_left _ (List.mem_of_getElem? (l := wsK_6) (i := 8) rfl))))))))
theorem wK_159 : (.selects RX11 yX11_answer yX11_answer : Cond) ∈ wsT := wsK_T _ (List.mem_append_right _ (List.mem_append_right _ (List.mem_append_right _ (List.mem_append_right _ (List.mem_append_right _ (List.mem_append_right _ (List.mem_append_left _ (List.mem_of_getElem? (l := wsK_6) (i := 9) rfl))))))))
theorem wK_160 : (.code yX11_answer cX11_answer 5 (some .int) : Cond) ∈ wsT := wsK_T _ (List.mem_append_right _ (List.mem_append_right _ (List.mem_append_right _ (List.mem_append_right _ (List.mem_append_right _ (List.mem_append_right _ (List.mem_append_left _ (List.mem_of_getElem? (l := wsK_6) (i := 10) rfl))))))))
theorem wK_161 : (.methodLink RL 165 yL_advice : Cond) ∈ wsT := wsK_T _ (List.mem_append_right _ (List.mem_append_right _ (List.mem_append_right _ (List.mem_append_right _ (List.mem_append_right _ (List.mem_append_right _ (List.mem_append_left _ (List.mem_of_getElem? (l := wsK_6) (i := 11) rfl))))))))
theorem wK_162 : (.static yL_advice : Cond) ∈ wsT := wsK_T _ (List.mem_append_right _ (List.mem_append_right _ (List.mem_append_right _ (List.mem_append_right _ (List.mem_append_right _ (List.mem_append_right _ (List.mem_append_left _ (List.mem_of_getElem? (l := wsK_6) (i := 12) rfl))))))))
theorem wK_163 : (.codeWith yL_advice cL_advice 3 (some .int) [(0, 5, 6, 16)] : Cond) ∈ wsT := wsK_T _ (List.mem_append_right _ (List.mem_append_right _ (List.mem_append_right _ (List.mem_append_right _ (List.mem_append_right _ (List.mem_append_right _ (List.mem_append_left _ (List.mem_of_getElem? (l := wsK_6) (i := 13) rfl))))))))
theorem wK_164 : (.methodLink RL 79 yX11_advice : Cond) ∈ wsT := wsK_T _ (List.mem_append_right _ (List.mem_append_right _ (List.mem_append_right _ (List.mem_append_right _ (List.mem_append_right _ (List.mem_append_right _ (List.mem_append_left _ (List.mem_of_getElem? (l := wsK_6) (i := 14) rfl))))))))
theorem wK_165 : (.instanceMethod yX11_advice : Cond) ∈ wsT := wsK_T _ (List.mem_append_right _ (List.mem_append_right _ (List.mem_append_right _ (List.mem_append_right _ (List.mem_append_right _ (List.mem_append_right _ (List.mem_append_left _ (List.mem_of_getElem? (l := wsK_6) (i := 15) rfl))))))))
theorem wK_166 : (.selects RX11 yX11_advice yX11_advice : Cond) ∈ wsT := wsK_T _ (List.mem_append_right _ (List.mem_append_right _ (List.mem_append_right _ (List.mem_append_right _ (List.mem_append_right _ (List.mem_append_right _ (List.mem_append_left _ (List.mem_of_getElem? (l := wsK_6) (i := 16) rfl))))))))
theorem wK_167 : (.code yX11_advice cX11_advice 2 (some .int) : Cond) ∈ wsT := wsK_T _ (List.mem_append_right _ (List.mem_append_right _ (List.mem_append_right _ (List.mem_append_right _ (List.mem_append_right _ (List.mem_append_right _ (List.mem_append_left _ (List.mem_of_getElem? (l := wsK_6) (i := 17) rfl))))))))
theorem wK_168 : (.methodLink RL 167 yL_again : Cond) ∈ wsT := wsK_T _ (List.mem_append_right _ (List.mem_append_right _ (List.mem_append_right _ (List.mem_append_right _ (List.mem_append_right _ (List.mem_append_right _ (List.mem_append_left _ (List.mem_of_getElem? (l := wsK_6) (i := 18) rfl))))))))
theorem wK_169 : (.static yL_again : Cond) ∈ wsT := wsK_T _ (List.mem_append_right _ (List.mem_append_right _ (List.mem_append_right _ (List.mem_append_right _ (List.mem_append_right _ (List.mem_append_right _ (List.mem_append_left _ (List.mem_of_getElem? (l := wsK_6) (i := 19) rfl))))))))
theorem wK_170 : (.codeWith yL_again cL_again 4 (some .int) [(0, 6, 7, 16), (0, 6, 11, 19)] : Cond) ∈ wsT := wsK_T _ (List.mem_append_right _ (List.mem_append_right _ (List.mem_append_right _ (List.mem_append_right _ (List.mem_append_right _ (List.mem_append_right _ (List.mem_append_left _ (List.mem_of_getElem? (l := wsK_6) (i := 20) rfl))))))))
theorem wK_171 : (.methodLink RL 82 yX11_again : Cond) ∈ wsT := wsK_T _ (List.mem_append_right _ (List.mem_append_right _ (List.mem_append_right _ (List.mem_append_right _ (List.mem_append_right _ (List.mem_append_right _ (List.mem_append_left _ (List.mem_of_getElem? (l := wsK_6) (i := 21) rfl))))))))
theorem wK_172 : (.instanceMethod yX11_again : Cond) ∈ wsT := wsK_T _ (List.mem_append_right _ (List.mem_append_right _ (List.mem_append_right _ (List.mem_append_right _ (List.mem_append_right _ (List.mem_append_right _ (List.mem_append_left _ (List.mem_of_getElem? (l := wsK_6) (i := 22) rfl))))))))
theorem wK_173 : (.selects RX11 yX11_again yX11_again : Cond) ∈ wsT := wsK_T _ (List.mem_append_right _ (List.mem_append_right _ (List.mem_append_right _ (List.mem_append_right _ (List.mem_append_right _ (List.mem_append_right _ (List.mem_append_left _ (List.mem_of_getElem? (l := wsK_6) (i := 23) rfl))))))))
theorem wK_174 : (.code yX11_again cX11_again 3 (some .int) : Cond) ∈ wsT := wsK_T _ (List.mem_append_right _ (List.mem_append_right _ (List.mem_append_right _ (List.mem_append_right _ (List.mem_append_right _ (List.mem_append_right _ (List.mem_append_left _ (List.mem_of_getElem? (l := wsK_6) (i := 24) rfl))))))))
theorem wK_175 : (.methodLink RL 196 yL_isBook : Cond) ∈ wsT := wsK_T _ (List.mem_append_right _ (List.mem_append_right _ (List.mem_append_right _ (List.mem_append_right _ (List.mem_append_right _ (List.mem_append_right _ (List.mem_append_right _ (List.mem_append_left _ (List.mem_of_getElem? (l := wsK_7) (i := 0) rfl)))))))))
theorem wK_176 : (.static yL_isBook : Cond) ∈ wsT := wsK_T _ (List.mem_append_right _ (List.mem_append_right _ (List.mem_append_right _ (List.mem_append_right _ (List.mem_append_right _ (List.mem_append_right _ (List.mem_append_right _ (List.mem_append_left _ (List.mem_of_getElem? (l := wsK_7) (i := 1) rfl)))))))))
theorem wK_177 : (.methodLink RL 169 yX11_entries : Cond) ∈ wsT := wsK_T _ (List.mem_append_right _ (List.mem_append_right _ (List.mem_append_right _ (List.mem_append_right _ (List.mem_append_right _ (List.mem_append_right _ (List.mem_append_right _ (List.mem_append_left _ (List.mem_of_getElem? (l := wsK_7) (i := 2) rfl)))))))))
theorem wK_178 : (.instanceMethod yX11_entries : Cond) ∈ wsT := wsK_T _ (List.mem_append_right _ (List.mem_append_right _ (List.mem_append_right _ (List.mem_append_right _ (List.mem_append_right _ (List.mem_append_right _ (List.mem_append_right _ (List.mem_append_left _ (List.mem_of_getElem? (l := wsK_7) (i := 3) rfl)))))))))
theorem wK_179 : (.selects RX11 yX11_entries yX11_entries : Cond) ∈ wsT := wsK_T _ (List.mem_append_right _ (List.mem_append_right _ (List.mem_append_right _ (List.mem_append_right _ (List.mem_append_right _ (List.mem_append_right _ (List.mem_append_right _ (List.mem_append_left _ (List.mem_of_getElem? (l := wsK_7) (i := 4) rfl)))))))))
theorem wK_180 : (.code yX11_entries cX11_entries 1 (some .int) : Cond) ∈ wsT := wsK_T _ (List.mem_append_right _ (List.mem_append_right _ (List.mem_append_right _ (List.mem_append_right _ (List.mem_append_right _ (List.mem_append_right _ (List.mem_append_right _ (List.mem_append_left _ (List.mem_of_getElem? (l := wsK_7) (i := 5) rfl)))))))))
theorem wK_181 : (.methodLink RL 172 yL_accountAnew : Cond) ∈ wsT := wsK_T _ (List.mem_append_right _ (List.mem_append_right _ (List.mem_append_right _ (List.mem_append_right _ (List.mem_append_right _ (List.mem_append_right _ (List.mem_append_right _ (List.mem_append_left _ (List.mem_of_getElem? (l := wsK_7) (i := 6) rfl)))))))))
theorem wK_182 : (.static yL_accountAnew : Cond) ∈ wsT := wsK_T _ (List.mem_append_right _ (List.mem_append_right _ (List.mem_append_right _ (List.mem_append_right _ (List.mem_append_right _ (List.mem_append_right _ (List.mem_append_right _ (List.mem_append_left _ (List.mem_of_getElem? (l := wsK_7) (i := 7) rfl)))))))))
theorem wK_183 : (.codeWith yL_accountAnew cL_accountAnew 4 (some .long) [(0, 6, 7, 16)] : Cond) ∈ wsT := wsK_T _ (List.mem_append_right _ (List.mem_append_right _ (List.mem_append_right _ (List.mem_append_right _ (List.mem_append_right _ (List.mem_append_right _ (List.mem_append_right _ (List.mem_append_left _ (List.mem_of_getElem? (l := wsK_7) (i := 8) rfl)))))))))
theorem wK_184 : (.methodLink RL 98 yX11_accountAnew : Cond) ∈ wsT := wsK_T _ (List.mem_append_right _ (List.mem_append_right _ (List.mem_append_right _ (List.mem_append_right _ (List.mem_append_right _ (List.mem_append_right _ (List.mem_append_right _ (List.mem_append_left _ (List.mem_of_getElem? (l := wsK_7) (i := 9) rfl)))))))))
theorem wK_185 : (.instanceMethod yX11_accountAnew : Cond) ∈ wsT := wsK_T _ (List.mem_append_right _ (List.mem_append_right _ (List.mem_append_right _ (List.mem_append_right _ (List.mem_append_right _ (List.mem_append_right _ (List.mem_append_right _ (List.mem_append_left _ (List.mem_of_getElem? (l := wsK_7) (i := 10) rfl)))))))))
theorem wK_186 : (.selects RX11 yX11_accountAnew yX11_accountAnew : Cond) ∈ wsT := wsK_T _ (List.mem_append_right _ (List.mem_append_right _ (List.mem_append_right _ (List.mem_append_right _ (List.mem_append_right _ (List.mem_append_right _ (List.mem_append_right _ (List.mem_append_left _ (List.mem_of_getElem? (l := wsK_7) (i := 11) rfl)))))))))
theorem wK_187 : (.code yX11_accountAnew cX11_accountAnew 3 (some .long) : Cond) ∈ wsT := wsK_T _ (List.mem_append_right _ (List.mem_append_right _ (List.mem_append_right _ (List.mem_append_right _ (List.mem_append_right _ (List.mem_append_right _ (List.mem_append_right _ (List.mem_append_left _ (List.mem_of_getElem? (l := wsK_7) (i := 12) rfl)))))))))
theorem wK_188 : (.methodLink RL 174 yL_entryAt : Cond) ∈ wsT := wsK_T _ (List.mem_append_right _ (List.mem_append_right _ (List.mem_append_right _ (List.mem_append_right _ (List.mem_append_right _ (List.mem_append_right _ (List.mem_append_right _ (List.mem_append_left _ (List.mem_of_getElem? (l := wsK_7) (i := 13) rfl)))))))))
theorem wK_189 : (.static yL_entryAt : Cond) ∈ wsT := wsK_T _ (List.mem_append_right _ (List.mem_append_right _ (List.mem_append_right _ (List.mem_append_right _ (List.mem_append_right _ (List.mem_append_right _ (List.mem_append_right _ (List.mem_append_left _ (List.mem_of_getElem? (l := wsK_7) (i := 14) rfl)))))))))
theorem wK_190 : (.codeWith yL_entryAt cL_entryAt 4 (some .long) [(0, 6, 7, 16), (0, 6, 12, 19)] : Cond) ∈ wsT := wsK_T _ (List.mem_append_right _ (List.mem_append_right _ (List.mem_append_right _ (List.mem_append_right _ (List.mem_append_right _ (List.mem_append_right _ (List.mem_append_right _ (List.mem_append_left _ (List.mem_of_getElem? (l := wsK_7) (i := 15) rfl)))))))))
theorem wK_191 : (.methodLink RL 104 yX11_entryAt : Cond) ∈ wsT := wsK_T _ (List.mem_append_right _ (List.mem_append_right _ (List.mem_append_right _ (List.mem_append_right _ (List.mem_append_right _ (List.mem_append_right _ (List.mem_append_right _ (List.mem_append_left _ (List.mem_of_getElem? (l := wsK_7) (i := 16) rfl)))))))))
theorem wK_192 : (.instanceMethod yX11_entryAt : Cond) ∈ wsT := wsK_T _ (List.mem_append_right _ (List.mem_append_right _ (List.mem_append_right _ (List.mem_append_right _ (List.mem_append_right _ (List.mem_append_right _ (List.mem_append_right _ (List.mem_append_left _ (List.mem_of_getElem? (l := wsK_7) (i := 17) rfl)))))))))
theorem wK_193 : (.selects RX11 yX11_entryAt yX11_entryAt : Cond) ∈ wsT := wsK_T _ (List.mem_append_right _ (List.mem_append_right _ (List.mem_append_right _ (List.mem_append_right _ (List.mem_append_right _ (List.mem_append_right _ (List.mem_append_right _ (List.mem_append_left _ (List.mem_of_getElem? (l := wsK_7) (i := 18) rfl)))))))))
theorem wK_194 : (.code yX11_entryAt cX11_entryAt 4 (some .long) : Cond) ∈ wsT := wsK_T _ (List.mem_append_right _ (List.mem_append_right _ (List.mem_append_right _ (List.mem_append_right _ (List.mem_append_right _ (List.mem_append_right _ (List.mem_append_right _ (List.mem_append_left _ (List.mem_of_getElem? (l := wsK_7) (i := 19) rfl)))))))))
theorem wK_195 : (.methodLink RL 200 yL_areQueues : Cond) ∈ wsT := wsK_T _ (List.mem_append_right _ (List.mem_append_right _ (List.mem_append_right _ (List.mem_append_right _ (List.mem_append_right _ (List.mem_append_right _ (List.mem_append_right _ (List.mem_append_left _ (List.mem_of_getElem? (l := wsK_7) (i := 20) rfl)))))))))
theorem wK_196 : (.static yL_areQueues : Cond) ∈ wsT := wsK_T _ (List.mem_append_right _ (List.mem_append_right _ (List.mem_append_right _ (List.mem_append_right _ (List.mem_append_right _ (List.mem_append_right _ (List.mem_append_right _ (List.mem_append_left _ (List.mem_of_getElem? (l := wsK_7) (i := 21) rfl)))))))))
theorem wK_197 : (.methodLink RL 176 yL_queueAt : Cond) ∈ wsT := wsK_T _ (List.mem_append_right _ (List.mem_append_right _ (List.mem_append_right _ (List.mem_append_right _ (List.mem_append_right _ (List.mem_append_right _ (List.mem_append_right _ (List.mem_append_left _ (List.mem_of_getElem? (l := wsK_7) (i := 22) rfl)))))))))
theorem wK_198 : (.static yL_queueAt : Cond) ∈ wsT := wsK_T _ (List.mem_append_right _ (List.mem_append_right _ (List.mem_append_right _ (List.mem_append_right _ (List.mem_append_right _ (List.mem_append_right _ (List.mem_append_right _ (List.mem_append_left _ (List.mem_of_getElem? (l := wsK_7) (i := 23) rfl)))))))))
theorem wK_199 : (.codeWith yL_queueAt cL_queueAt 5 (some .int) [(0, 7, 8, 16)] : Cond) ∈ wsT := wsK_T _ (List.mem_append_right _ (List.mem_append_right _ (List.mem_append_right _ (List.mem_append_right _ (List.mem_append_right _ (List.mem_append_right _ (List.mem_append_right _ (List.mem_append_left _ (List.mem_of_getElem? (l := wsK_7) (i := 24) rfl)))))))))
theorem wK_200 : (.methodLink RL 76 yX11_queueAt : Cond) ∈ wsT := wsK_T _ (List.mem_append_right _ (List.mem_append_right _ (List.mem_append_right _ (List.mem_append_right _ (List.mem_append_right _ (List.mem_append_right _ (List.mem_append_right _ (List.mem_append_right _ (List.mem_append_left _ (List.mem_of_getElem? (l := wsK_8) (i := 0) rfl))))))))))
theorem wK_201 : (.instanceMethod yX11_queueAt : Cond) ∈ wsT := wsK_T _ (List.mem_append_right _ (List.mem_append_right _ (List.mem_append_right _ (List.mem_append_right _ (List.mem_append_right _ (List.mem_append_right _ (List.mem_append_right _ (List.mem_append_right _ (List.mem_append_left _ (List.mem_of_getElem? (l := wsK_8) (i := 1) rfl))))))))))
theorem wK_202 : (.selects RX11 yX11_queueAt yX11_queueAt : Cond) ∈ wsT := wsK_T _ (List.mem_append_right _ (List.mem_append_right _ (List.mem_append_right _ (List.mem_append_right _ (List.mem_append_right _ (List.mem_append_right _ (List.mem_append_right _ (List.mem_append_right _ (List.mem_append_left _ (List.mem_of_getElem? (l := wsK_8) (i := 2) rfl))))))))))
theorem wK_203 : (.code yX11_queueAt cX11_queueAt 4 (some .int) : Cond) ∈ wsT := wsK_T _ (List.mem_append_right _ (List.mem_append_right _ (List.mem_append_right _ (List.mem_append_right _ (List.mem_append_right _ (List.mem_append_right _ (List.mem_append_right _ (List.mem_append_right _ (List.mem_append_left _ (List.mem_of_getElem? (l := wsK_8) (i := 3) rfl))))))))))
theorem wK_204 : (.methodLink RL 178 yL_paid : Cond) ∈ wsT := wsK_T _ (List.mem_append_right _ (List.mem_append_right _ (List.mem_append_right _ (List.mem_append_right _ (List.mem_append_right _ (List.mem_append_right _ (List.mem_append_right _ (List.mem_append_right _ (List.mem_append_left _ (List.mem_of_getElem? (l := wsK_8) (i := 4) rfl))))))))))
theorem wK_205 : (.static yL_paid : Cond) ∈ wsT := wsK_T _ (List.mem_append_right _ (List.mem_append_right _ (List.mem_append_right _ (List.mem_append_right _ (List.mem_append_right _ (List.mem_append_right _ (List.mem_append_right _ (List.mem_append_right _ (List.mem_append_left _ (List.mem_of_getElem? (l := wsK_8) (i := 5) rfl))))))))))
theorem wK_206 : (.codeWith yL_paid cL_paid 5 (some .long) [(0, 7, 8, 16)] : Cond) ∈ wsT := wsK_T _ (List.mem_append_right _ (List.mem_append_right _ (List.mem_append_right _ (List.mem_append_right _ (List.mem_append_right _ (List.mem_append_right _ (List.mem_append_right _ (List.mem_append_right _ (List.mem_append_left _ (List.mem_of_getElem? (l := wsK_8) (i := 6) rfl))))))))))
theorem wK_207 : (.methodLink RL 101 yX11_paid : Cond) ∈ wsT := wsK_T _ (List.mem_append_right _ (List.mem_append_right _ (List.mem_append_right _ (List.mem_append_right _ (List.mem_append_right _ (List.mem_append_right _ (List.mem_append_right _ (List.mem_append_right _ (List.mem_append_left _ (List.mem_of_getElem? (l := wsK_8) (i := 7) rfl))))))))))
theorem wK_208 : (.instanceMethod yX11_paid : Cond) ∈ wsT := wsK_T _ (List.mem_append_right _ (List.mem_append_right _ (List.mem_append_right _ (List.mem_append_right _ (List.mem_append_right _ (List.mem_append_right _ (List.mem_append_right _ (List.mem_append_right _ (List.mem_append_left _ (List.mem_of_getElem? (l := wsK_8) (i := 8) rfl))))))))))
theorem wK_209 : (.selects RX11 yX11_paid yX11_paid : Cond) ∈ wsT := wsK_T _ (List.mem_append_right _ (List.mem_append_right _ (List.mem_append_right _ (List.mem_append_right _ (List.mem_append_right _ (List.mem_append_right _ (List.mem_append_right _ (List.mem_append_right _ (List.mem_append_left _ (List.mem_of_getElem? (l := wsK_8) (i := 9) rfl))))))))))
theorem wK_210 : (.code yX11_paid cX11_paid 4 (some .long) : Cond) ∈ wsT := wsK_T _ (List.mem_append_right _ (List.mem_append_right _ (List.mem_append_right _ (List.mem_append_right _ (List.mem_append_right _ (List.mem_append_right _ (List.mem_append_right _ (List.mem_append_right _ (List.mem_append_left _ (List.mem_of_getElem? (l := wsK_8) (i := 10) rfl))))))))))
theorem wK_211 : (.code yL_sends cL_sends 17 (some .boolean) : Cond) ∈ wsT := wsK_T _ (List.mem_append_right _ (List.mem_append_right _ (List.mem_append_right _ (List.mem_append_right _ (List.mem_append_right _ (List.mem_append_right _ (List.mem_append_right _ (List.mem_append_right _ (List.mem_append_right _ (List.mem_of_getElem? (l := wsK_9) (i := 0) rfl))))))))))
theorem wK_212 : (.code yL_changes cL_changes 12 (some .boolean) : Cond) ∈ wsT := wsK_T _ (List.mem_append_right _ (List.mem_append_right _ (List.mem_append_right _ (List.mem_append_right _ (List.mem_append_right _ (List.mem_append_right _ (List.mem_append_right _ (List.mem_append_right _ (List.mem_append_right _ (List.mem_of_getElem? (l := wsK_9) (i := 1) rfl))))))))))
theorem wK_213 : (.code yL_goesOn cL_goesOn 11 (some .boolean) : Cond) ∈ wsT := wsK_T _ (List.mem_append_right _ (List.mem_append_right _ (List.mem_append_right _ (List.mem_append_right _ (List.mem_append_right _ (List.mem_append_right _ (List.mem_append_right _ (List.mem_append_right _ (List.mem_append_right _ (List.mem_of_getElem? (l := wsK_9) (i := 2) rfl))))))))))
theorem wK_214 : (.code yL_isBook cL_isBook 14 (some .boolean) : Cond) ∈ wsT := wsK_T _ (List.mem_append_right _ (List.mem_append_right _ (List.mem_append_right _ (List.mem_append_right _ (List.mem_append_right _ (List.mem_append_right _ (List.mem_append_right _ (List.mem_append_right _ (List.mem_append_right _ (List.mem_of_getElem? (l := wsK_9) (i := 3) rfl))))))))))
theorem wK_215 : (.code yL_areQueues cL_areQueues 13 (some .boolean) : Cond) ∈ wsT := wsK_T _ (List.mem_append_right _ (List.mem_append_right _ (List.mem_append_right _ (List.mem_append_right _ (List.mem_append_right _ (List.mem_append_right _ (List.mem_append_right _ (List.mem_append_right _ (List.mem_append_right _ (List.mem_of_getElem? (l := wsK_9) (i := 4) rfl))))))))))
abbrev vL_at : List Cond := .code yL_at cL_at 2 (some .int) :: wsT
abbrev vL_low : List Cond := .code yL_low cL_low 2 (some .int) :: wsT
abbrev vL_line : List Cond := .codeWith yL_line cL_line 5 (some .int) [(0, 7, 8, 16), (0, 7, 13, 19)] :: wsT
abbrev vL_limit : List Cond := .codeWith yL_limit cL_limit 6 (some .int) [(0, 9, 10, 16), (0, 9, 15, 19)] :: wsT
abbrev vL_out : List Cond := .codeWith yL_out cL_out 4 (some .int) [(0, 14, 15, 16)] :: wsT
abbrev vL_holiday : List Cond := .codeWith yL_holiday cL_holiday 5 (some .int) [(0, 15, 16, 16), (0, 15, 21, 19)] :: wsT
abbrev vL_list : List Cond := .codeWith yL_list cL_list 4 (some .int) [(0, 6, 7, 16)] :: wsT
abbrev vL_send : List Cond := .codeWith yL_send cL_send 12 (some .int) [(0, 21, 22, 16), (0, 21, 27, 19), (0, 21, 32, 42)] :: wsT
abbrev vL_join : List Cond := .codeWith yL_join cL_join 4 (some .int) [(0, 7, 8, 16), (0, 7, 12, 42)] :: wsT
abbrev vL_withdraw : List Cond := .codeWith yL_withdraw cL_withdraw 3 (some .int) [(0, 5, 6, 16), (0, 5, 10, 42)] :: wsT
abbrev vL_release : List Cond := .codeWith yL_release cL_release 4 (some .int) [(0, 14, 15, 16), (0, 14, 19, 42)] :: wsT
abbrev vL_refuse : List Cond := .codeWith yL_refuse cL_refuse 3 (some .int) [(0, 5, 6, 16), (0, 5, 10, 42)] :: wsT
abbrev vL_offset : List Cond := .codeWith yL_offset cL_offset 3 (some .int) [(0, 5, 6, 16)] :: wsT
abbrev vL_recall : List Cond := .codeWith yL_recall cL_recall 3 (some .int) [(0, 5, 6, 16), (0, 5, 10, 42)] :: wsT
abbrev vL_answer : List Cond := .codeWith yL_answer cL_answer 4 (some .int) [(0, 6, 7, 16), (0, 6, 11, 42)] :: wsT
abbrev vL_endDay : List Cond := .codeWith yL_endDay cL_endDay 2 (some .int) [(0, 4, 5, 42)] :: wsT
abbrev vL_stateOf : List Cond := .codeWith yL_stateOf cL_stateOf 3 (some .int) [(0, 5, 6, 16)] :: wsT
abbrev vL_queueAt : List Cond := .codeWith yL_queueAt cL_queueAt 5 (some .int) [(0, 7, 8, 16)] :: wsT
abbrev vL_advice : List Cond := .codeWith yL_advice cL_advice 3 (some .int) [(0, 5, 6, 16)] :: wsT
abbrev vL_again : List Cond := .codeWith yL_again cL_again 4 (some .int) [(0, 6, 7, 16), (0, 6, 11, 19)] :: wsT
abbrev vL_fund : List Cond := .codeWith yL_fund cL_fund 5 (some .long) [(0, 7, 8, 16), (0, 7, 14, 19)] :: wsT
abbrev vL_account : List Cond := .codeWith yL_account cL_account 4 (some .long) [(0, 6, 7, 16)] :: wsT
abbrev vL_accountAnew : List Cond := .codeWith yL_accountAnew cL_accountAnew 4 (some .long) [(0, 6, 7, 16)] :: wsT
abbrev vL_paid : List Cond := .codeWith yL_paid cL_paid 5 (some .long) [(0, 7, 8, 16)] :: wsT
abbrev vL_entryAt : List Cond := .codeWith yL_entryAt cL_entryAt 4 (some .long) [(0, 6, 7, 16), (0, 6, 12, 19)] :: wsT
abbrev vL_sends : List Cond := .code yL_sends cL_sends 17 (some .boolean) :: wsT
abbrev vL_changes : List Cond := .code yL_changes cL_changes 12 (some .boolean) :: wsT
abbrev vL_goesOn : List Cond := .code yL_goesOn cL_goesOn 11 (some .boolean) :: wsT
abbrev vL_isBook : List Cond := .code yL_isBook cL_isBook 14 (some .boolean) :: wsT
abbrev vL_areQueues : List Cond := .code yL_areQueues cL_areQueues 13 (some .boolean) :: wsT
theorem gL_X11_init : ∀ w ∈ vX11_init, w ∈ wsT := List.forall_mem_cons.mpr ⟨wK_5, wsC_T⟩
theorem gL_X11_payments : ∀ w ∈ wsV RL 118 RX11 yX11_payments vX11_payments, w ∈ wsT := gd_V2 wsC_T wK_6 wK_7 wK_8 (wsC_T _ wsCw_52) wK_9
theorem gL_L_at : ∀ w ∈ va_wsS RL 181 yL_at vL_at, w ∈ wsT := gd_S2 (fun _ h => h) wK_10 wK_11 wK_12 wK_13
theorem gL_L_low : ∀ w ∈ va_wsS RL 107 yL_low vL_low, w ∈ wsT := gd_S2 (fun _ h => h) wK_16 wK_17 wK_12 wK_18
theorem gL_L_sends : ∀ w ∈ va_wsS RL 185 yL_sends vL_sends, w ∈ wsT := gd_S2 (fun _ h => h) wK_20 wK_21 wK_12 wK_211
theorem gL_X11_doubles : ∀ w ∈ wsV RL 112 RX11 yX11_doubles vX11_doubles, w ∈ wsT := gd_V2 wsC_T wK_23 wK_24 wK_25 (wsC_T _ wsCw_52) wK_26
theorem gL_L_send : ∀ w ∈ va_wsS RL 115 yL_send vL_send, w ∈ wsT := gd_S2 (fun _ h => h) wK_27 wK_28 wK_12 wK_29
theorem gL_X11_send : ∀ w ∈ wsV RL 38 RX11 yX11_send vX11_send, w ∈ wsT := gd_V2 wsC_T wK_35 wK_36 wK_37 (wsC_T _ wsCw_52) wK_38
theorem gL_L_changes : ∀ w ∈ va_wsS RL 189 yL_changes vL_changes, w ∈ wsT := gd_S2 (fun _ h => h) wK_39 wK_40 wK_12 wK_212
theorem gL_L_fund : ∀ w ∈ va_wsS RL 121 yL_fund vL_fund, w ∈ wsT := gd_S2 (fun _ h => h) wK_41 wK_42 wK_12 wK_43
theorem gL_X11_fund : ∀ w ∈ wsV RL 86 RX11 yX11_fund vX11_fund, w ∈ wsT := gd_V2 wsC_T wK_46 wK_47 wK_48 (wsC_T _ wsCw_52) wK_49
theorem gL_L_account : ∀ w ∈ va_wsS RL 124 yL_account vL_account, w ∈ wsT := gd_S2 (fun _ h => h) wK_50 wK_51 wK_12 wK_52
theorem gL_X11_account : ∀ w ∈ wsV RL 94 RX11 yX11_account vX11_account, w ∈ wsT := gd_V2 wsC_T wK_53 wK_54 wK_55 (wsC_T _ wsCw_52) wK_56
theorem gL_L_line : ∀ w ∈ va_wsS RL 127 yL_line vL_line, w ∈ wsT := gd_S2 (fun _ h => h) wK_57 wK_58 wK_12 wK_59
theorem gL_X11_line : ∀ w ∈ wsV RL 10 RX11 yX11_line vX11_line, w ∈ wsT := gd_V2 wsC_T wK_60 wK_61 wK_62 (wsC_T _ wsCw_52) wK_63
theorem gL_L_limit : ∀ w ∈ va_wsS RL 130 yL_limit vL_limit, w ∈ wsT := gd_S2 (fun _ h => h) wK_64 wK_65 wK_12 wK_66
theorem gL_X11_limit : ∀ w ∈ wsV RL 22 RX11 yX11_limit vX11_limit, w ∈ wsT := gd_V2 wsC_T wK_67 wK_68 wK_69 (wsC_T _ wsCw_52) wK_70
theorem gL_L_out : ∀ w ∈ va_wsS RL 133 yL_out vL_out, w ∈ wsT := gd_S2 (fun _ h => h) wK_71 wK_72 wK_12 wK_73
theorem gL_X11_out : ∀ w ∈ wsV RL 26 RX11 yX11_out vX11_out, w ∈ wsT := gd_V2 wsC_T wK_74 wK_75 wK_76 (wsC_T _ wsCw_52) wK_77
theorem gL_L_holiday : ∀ w ∈ va_wsS RL 136 yL_holiday vL_holiday, w ∈ wsT := gd_S2 (fun _ h => h) wK_78 wK_79 wK_12 wK_80
theorem gL_X11_holiday : ∀ w ∈ wsV RL 30 RX11 yX11_holiday vX11_holiday, w ∈ wsT := gd_V2 wsC_T wK_81 wK_82 wK_83 (wsC_T _ wsCw_52) wK_84
theorem gL_L_list : ∀ w ∈ va_wsS RL 139 yL_list vL_list, w ∈ wsT := gd_S2 (fun _ h => h) wK_85 wK_86 wK_12 wK_87
theorem gL_X11_list : ∀ w ∈ wsV RL 34 RX11 yX11_list vX11_list, w ∈ wsT := gd_V2 wsC_T wK_88 wK_89 wK_90 (wsC_T _ wsCw_52) wK_91
theorem gL_L_join : ∀ w ∈ va_wsS RL 141 yL_join vL_join, w ∈ wsT := gd_S2 (fun _ h => h) wK_92 wK_93 wK_12 wK_94
theorem gL_X11_join : ∀ w ∈ wsV RL 45 RX11 yX11_join vX11_join, w ∈ wsT := gd_V2 wsC_T wK_95 wK_96 wK_97 (wsC_T _ wsCw_52) wK_98
theorem gL_L_stateOf : ∀ w ∈ va_wsS RL 144 yL_stateOf vL_stateOf, w ∈ wsT := gd_S2 (fun _ h => h) wK_99 wK_100 wK_12 wK_101
theorem gL_X11_stateOf : ∀ w ∈ wsV RL 73 RX11 yX11_stateOf vX11_stateOf, w ∈ wsT := gd_V2 wsC_T wK_102 wK_103 wK_104 (wsC_T _ wsCw_52) wK_105
theorem gL_L_withdraw : ∀ w ∈ va_wsS RL 147 yL_withdraw vL_withdraw, w ∈ wsT := gd_S2 (fun _ h => h) wK_106 wK_107 wK_12 wK_108
theorem gL_X11_withdraw : ∀ w ∈ wsV RL 49 RX11 yX11_withdraw vX11_withdraw, w ∈ wsT := gd_V2 wsC_T wK_109 wK_110 wK_111 (wsC_T _ wsCw_52) wK_112
theorem gL_L_refuse : ∀ w ∈ va_wsS RL 149 yL_refuse vL_refuse, w ∈ wsT := gd_S2 (fun _ h => h) wK_113 wK_114 wK_12 wK_115
theorem gL_X11_refuse : ∀ w ∈ wsV RL 57 RX11 yX11_refuse vX11_refuse, w ∈ wsT := gd_V2 wsC_T wK_116 wK_117 wK_118 (wsC_T _ wsCw_52) wK_119
theorem gL_L_release : ∀ w ∈ va_wsS RL 151 yL_release vL_release, w ∈ wsT := gd_S2 (fun _ h => h) wK_120 wK_121 wK_12 wK_122
theorem gL_X11_release : ∀ w ∈ wsV RL 53 RX11 yX11_release vX11_release, w ∈ wsT := gd_V2 wsC_T wK_123 wK_124 wK_125 (wsC_T _ wsCw_52) wK_126
theorem gL_L_offset : ∀ w ∈ va_wsS RL 153 yL_offset vL_offset, w ∈ wsT := gd_S2 (fun _ h => h) wK_127 wK_128 wK_12 wK_129
theorem gL_X11_offset : ∀ w ∈ wsV RL 60 RX11 yX11_offset vX11_offset, w ∈ wsT := gd_V2 wsC_T wK_130 wK_131 wK_132 (wsC_T _ wsCw_52) wK_133
theorem gL_L_goesOn : ∀ w ∈ va_wsS RL 193 yL_goesOn vL_goesOn, w ∈ wsT := gd_S2 (fun _ h => h) wK_134 wK_135 wK_12 wK_213
theorem gL_L_endDay : ∀ w ∈ va_wsS RL 155 yL_endDay vL_endDay, w ∈ wsT := gd_S2 (fun _ h => h) wK_136 wK_137 wK_12 wK_138
theorem gL_X11_endDay : ∀ w ∈ wsV RL 69 RX11 yX11_endDay vX11_endDay, w ∈ wsT := gd_V2 wsC_T wK_139 wK_140 wK_141 (wsC_T _ wsCw_52) wK_142
theorem gL_X11_today : ∀ w ∈ wsV RL 158 RX11 yX11_today vX11_today, w ∈ wsT := gd_V2 wsC_T wK_143 wK_144 wK_145 (wsC_T _ wsCw_52) wK_146
theorem gL_L_recall : ∀ w ∈ va_wsS RL 161 yL_recall vL_recall, w ∈ wsT := gd_S2 (fun _ h => h) wK_147 wK_148 wK_12 wK_149
theorem gL_X11_recall : ∀ w ∈ wsV RL 63 RX11 yX11_recall vX11_recall, w ∈ wsT := gd_V2 wsC_T wK_150 wK_151 wK_152 (wsC_T _ wsCw_52) wK_153
theorem gL_L_answer : ∀ w ∈ va_wsS RL 163 yL_answer vL_answer, w ∈ wsT := gd_S2 (fun _ h => h) wK_154 wK_155 wK_12 wK_156
theorem gL_X11_answer : ∀ w ∈ wsV RL 66 RX11 yX11_answer vX11_answer, w ∈ wsT := gd_V2 wsC_T wK_157 wK_158 wK_159 (wsC_T _ wsCw_52) wK_160
theorem gL_L_advice : ∀ w ∈ va_wsS RL 165 yL_advice vL_advice, w ∈ wsT := gd_S2 (fun _ h => h) wK_161 wK_162 wK_12 wK_163
theorem gL_X11_advice : ∀ w ∈ wsV RL 79 RX11 yX11_advice vX11_advice, w ∈ wsT := gd_V2 wsC_T wK_164 wK_165 wK_166 (wsC_T _ wsCw_52) wK_167
theorem gL_L_again : ∀ w ∈ va_wsS RL 167 yL_again vL_again, w ∈ wsT := gd_S2 (fun _ h => h) wK_168 wK_169 wK_12 wK_170
theorem gL_X11_again : ∀ w ∈ wsV RL 82 RX11 yX11_again vX11_again, w ∈ wsT := gd_V2 wsC_T wK_171 wK_172 wK_173 (wsC_T _ wsCw_52) wK_174
theorem gL_L_isBook : ∀ w ∈ va_wsS RL 196 yL_isBook vL_isBook, w ∈ wsT := gd_S2 (fun _ h => h) wK_175 wK_176 wK_12 wK_214
theorem gL_X11_entries : ∀ w ∈ wsV RL 169 RX11 yX11_entries vX11_entries, w ∈ wsT := gd_V2 wsC_T wK_177 wK_178 wK_179 (wsC_T _ wsCw_52) wK_180
theorem gL_L_accountAnew : ∀ w ∈ va_wsS RL 172 yL_accountAnew vL_accountAnew, w ∈ wsT := gd_S2 (fun _ h => h) wK_181 wK_182 wK_12 wK_183
theorem gL_X11_accountAnew : ∀ w ∈ wsV RL 98 RX11 yX11_accountAnew vX11_accountAnew, w ∈ wsT := gd_V2 wsC_T wK_184 wK_185 wK_186 (wsC_T _ wsCw_52) wK_187
theorem gL_L_entryAt : ∀ w ∈ va_wsS RL 174 yL_entryAt vL_entryAt, w ∈ wsT := gd_S2 (fun _ h => h) wK_188 wK_189 wK_12 wK_190
theorem gL_X11_entryAt : ∀ w ∈ wsV RL 104 RX11 yX11_entryAt vX11_entryAt, w ∈ wsT := gd_V2 wsC_T wK_191 wK_192 wK_193 (wsC_T _ wsCw_52) wK_194
theorem gL_L_areQueues : ∀ w ∈ va_wsS RL 200 yL_areQueues vL_areQueues, w ∈ wsT := gd_S2 (fun _ h => h) wK_195 wK_196 wK_12 wK_215
theorem gL_L_queueAt : ∀ w ∈ va_wsS RL 176 yL_queueAt vL_queueAt, w ∈ wsT := gd_S2 (fun _ h => h) wK_197 wK_198 wK_12 wK_199
theorem gL_X11_queueAt : ∀ w ∈ wsV RL 76 RX11 yX11_queueAt vX11_queueAt, w ∈ wsT := gd_V2 wsC_T wK_200 wK_201 wK_202 (wsC_T _ wsCw_52) wK_203
theorem gL_L_paid : ∀ w ∈ va_wsS RL 178 yL_paid vL_paid, w ∈ wsT := gd_S2 (fun _ h => h) wK_204 wK_205 wK_12 wK_206
theorem gL_X11_paid : ∀ w ∈ wsV RL 101 RX11 yX11_paid vX11_paid, w ∈ wsT := gd_V2 wsC_T wK_207 wK_208 wK_209 (wsC_T _ wsCw_52) wK_210
theorem kL_7 {x : Cond} : (.constant RL 7 (1239799739) : Cond) ∈ x :: wsT := List.mem_cons_of_mem _ wK_14
theorem kL_8 {x : Cond} : (.constant RL 8 (1640212981) : Cond) ∈ x :: wsT := List.mem_cons_of_mem _ wK_15
theorem kL_9 {x : Cond} : (.constant RL 9 (2147483647) : Cond) ∈ x :: wsT := List.mem_cons_of_mem _ wK_19
theorem kL_44 {x : Cond} : (.constant RL 44 (-1000003) : Cond) ∈ x :: wsT := List.mem_cons_of_mem _ wK_22
theorem kL_18 {x : Cond} : (.constant RL 18 (-1000001) : Cond) ∈ x :: wsT := List.mem_cons_of_mem _ wK_33
theorem kL_21 {x : Cond} : (.constant RL 21 (-1000002) : Cond) ∈ x :: wsT := List.mem_cons_of_mem _ wK_34
theorem kL_90 {x : Cond} : (.constantLong RL 90 (-10000001) : Cond) ∈ x :: wsT := List.mem_cons_of_mem _ wK_44
theorem kL_92 {x : Cond} : (.constantLong RL 92 (-10000002) : Cond) ∈ x :: wsT := List.mem_cons_of_mem _ wK_45
