set_option maxRecDepth 20000 in
theorem wsC_21_in : GoodIn lw_tbl wsC_21 := goodIn_p wsC_21 [844, 857, 386, 465] (by decide +kernel) (by decide +kernel)
set_option maxRecDepth 20000 in
theorem wsC_22_in : GoodIn lw_tbl wsC_22 := goodIn_p wsC_22 [492, 496, 500, 634, 868, 874] (by decide +kernel) (by decide +kernel)
set_option maxRecDepth 20000 in
theorem wsC_23_in : GoodIn lw_tbl wsC_23 := goodIn_p wsC_23 [1012, 957, 1064] (by decide +kernel) (by decide +kernel)
set_option maxRecDepth 20000 in
theorem wsC_24_in : GoodIn lw_tbl wsC_24 := goodIn_p wsC_24 [1110, 1097, 1053, 1077, 1082, 1026] (by decide +kernel) (by decide +kernel)
set_option maxRecDepth 20000 in
theorem wsC_25_in : GoodIn lw_tbl wsC_25 := goodIn_p wsC_25 [1038, 1042] (by decide +kernel) (by decide +kernel)
