set_option maxRecDepth 20000 in
theorem wsC_0_in : GoodIn lw_tbl wsC_0 := goodIn_p wsC_0 [50, 108, 105, 102] (by decide +kernel) (by decide +kernel)
set_option maxRecDepth 20000 in
theorem wsC_1_in : GoodIn lw_tbl wsC_1 := goodIn_p wsC_1 [71, 96, 67] (by decide +kernel) (by decide +kernel)
set_option maxRecDepth 20000 in
theorem wsC_2_in : GoodIn lw_tbl wsC_2 := goodIn_p wsC_2 [134, 683, 469, 638, 579] (by decide +kernel) (by decide +kernel)
set_option maxRecDepth 20000 in
theorem wsC_3_in : GoodIn lw_tbl wsC_3 := goodIn_p wsC_3 [611, 605, 574, 582] (by decide +kernel) (by decide +kernel)
set_option maxRecDepth 20000 in
theorem wsC_4_in : GoodIn lw_tbl wsC_4 := goodIn_p wsC_4 [571, 567, 563, 258, 559] (by decide +kernel) (by decide +kernel)
set_option maxRecDepth 20000 in
theorem wsC_5_in : GoodIn lw_tbl wsC_5 := goodIn_p wsC_5 [687, 738, 763, 731, 690] (by decide +kernel) (by decide +kernel)
set_option maxRecDepth 20000 in
theorem wsC_6_in : GoodIn lw_tbl wsC_6 := goodIn_p wsC_6 [971, 383] (by decide +kernel) (by decide +kernel)
