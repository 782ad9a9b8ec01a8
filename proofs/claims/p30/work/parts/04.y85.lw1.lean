set_option maxRecDepth 20000 in
theorem wsC_7_in : GoodIn lw_tbl wsC_7 := goodIn_p wsC_7 [675, 680, 703, 712] (by decide +kernel) (by decide +kernel)
set_option maxRecDepth 20000 in
theorem wsC_8_in : GoodIn lw_tbl wsC_8 := goodIn_p wsC_8 [698, 708, 483, 480, 487, 477] (by decide +kernel) (by decide +kernel)
set_option maxRecDepth 20000 in
theorem wsC_9_in : GoodIn lw_tbl wsC_9 := goodIn_p wsC_9 [624] (by decide +kernel) (by decide +kernel)
set_option maxRecDepth 20000 in
theorem wsC_10_in : GoodIn lw_tbl wsC_10 := goodIn_p wsC_10 [61, 90] (by decide +kernel) (by decide +kernel)
set_option maxRecDepth 20000 in
theorem wsC_11_in : GoodIn lw_tbl wsC_11 := goodIn_p wsC_11 [156, 175, 198, 508] (by decide +kernel) (by decide +kernel)
set_option maxRecDepth 20000 in
theorem wsC_12_in : GoodIn lw_tbl wsC_12 := goodIn_p wsC_12 [504, 620, 629] (by decide +kernel) (by decide +kernel)
set_option maxRecDepth 20000 in
theorem wsC_13_in : GoodIn lw_tbl wsC_13 := goodIn_p wsC_13 [407, 461, 254] (by decide +kernel) (by decide +kernel)
