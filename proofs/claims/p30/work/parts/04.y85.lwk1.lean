set_option maxRecDepth 20000 in
theorem wsK_3_in : GoodIn lw_tbl wsK_3 := goodIn_p wsK_3 [832, 840, 853, 864] (by decide +kernel) (by decide +kernel)
set_option maxRecDepth 20000 in
theorem wsK_4_in : GoodIn lw_tbl wsK_4 := goodIn_p wsK_4 [889, 896, 908] (by decide +kernel) (by decide +kernel)
set_option maxRecDepth 20000 in
theorem wsK_5_in : GoodIn lw_tbl wsK_5 := goodIn_p wsK_5 [915, 923, 953, 994] (by decide +kernel) (by decide +kernel)
