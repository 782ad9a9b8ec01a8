set_option maxRecDepth 20000 in
theorem wsK_6_in : GoodIn lw_tbl wsK_6 := goodIn_p wsK_6 [1001, 1008, 1022, 1034] (by decide +kernel) (by decide +kernel)
set_option maxRecDepth 20000 in
theorem wsK_7_in : GoodIn lw_tbl wsK_7 := goodIn_p wsK_7 [1049, 1060, 1073] (by decide +kernel) (by decide +kernel)
set_option maxRecDepth 20000 in
theorem wsK_8_in : GoodIn lw_tbl wsK_8 := goodIn_p wsK_8 [1092, 1106] (by decide +kernel) (by decide +kernel)
