set_option maxRecDepth 20000 in
theorem wsC_14_in : GoodIn lw_tbl wsC_14 := goodIn_p wsC_14 [473, 654, 658, 722, 727] (by decide +kernel) (by decide +kernel)
set_option maxRecDepth 20000 in
theorem wsC_15_in : GoodIn lw_tbl wsC_15 := goodIn_p wsC_15 [770, 650, 662, 666, 671, 694] (by decide +kernel) (by decide +kernel)
set_option maxRecDepth 20000 in
theorem wsC_16_in : GoodIn lw_tbl wsC_16 := goodIn_p wsC_16 [716, 646, 937, 932, 943] (by decide +kernel) (by decide +kernel)
set_option maxRecDepth 20000 in
theorem wsC_17_in : GoodIn lw_tbl wsC_17 := goodIn_p wsC_17 [878, 901, 792, 975] (by decide +kernel) (by decide +kernel)
set_option maxRecDepth 20000 in
theorem wsC_18_in : GoodIn lw_tbl wsC_18 := goodIn_p wsC_18 [979, 927, 962, 967, 986, 990] (by decide +kernel) (by decide +kernel)
set_option maxRecDepth 20000 in
theorem wsC_19_in : GoodIn lw_tbl wsC_19 := goodIn_p wsC_19 [882, 55, 287, 378] (by decide +kernel) (by decide +kernel)
set_option maxRecDepth 20000 in
theorem wsC_20_in : GoodIn lw_tbl wsC_20 := goodIn_p wsC_20 [642, 812, 358, 825] (by decide +kernel) (by decide +kernel)
