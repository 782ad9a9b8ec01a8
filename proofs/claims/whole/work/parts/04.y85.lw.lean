def wsK_0 : List Cond := [.classLink RL 8 RX11, .instantiable RX11 1, .classLink RL 98 RX12, .instantiable RX12 37, .methodLink RL 97 yX11_init, .instanceMethod yX11_init, .code yX11_init cX11_init 1 none, .methodLink RL 100 yX12_init, .instanceMethod yX12_init, .code yX12_init cX12_init 2 none, .methodLink RL 101 yL_fund, .static yL_fund, .initialized RL, .codeWith yL_fund cL_fund 6 (some .int) [(0, 11, 14, 13), (0, 11, 18, 15)], .classLink RL 13 "java/lang/IndexOutOfBoundsException", .classLink RL 15 "java/lang/IllegalArgumentException", .methodLink RL 7 yX11_fund, .instanceMethod yX11_fund, .selects RX11 yX11_fund yX11_fund, .code yX11_fund cX11_fund 4 (some .long), .methodLink RL 106 yX12_fund, .instanceMethod yX12_fund, .selects RX12 yX12_fund yX12_fund, .code yX12_fund cX12_fund 5 (some .long), .methodLink RL 107 yX12_thrown]
def wsK_1 : List Cond := [.instanceMethod yX12_thrown, .selects RX12 yX12_thrown yX12_thrown, .code yX12_thrown cX12_thrown 1 (some .int), .methodLink RL 110 yL_line, .static yL_line, .codeWith yL_line cL_line 6 (some .int) [(0, 12, 15, 13), (0, 12, 19, 15)], .methodLink RL 17 yX11_line, .instanceMethod yX11_line, .selects RX11 yX11_line yX11_line, .code yX11_line cX11_line 5 (some .int), .methodLink RL 112 yX12_line, .instanceMethod yX12_line, .selects RX12 yX12_line yX12_line, .code yX12_line cX12_line 6 (some .int), .methodLink RL 113 yL_limit, .static yL_limit, .codeWith yL_limit cL_limit 7 (some .int) [(0, 14, 17, 13), (0, 14, 21, 15)], .methodLink RL 21 yX11_limit, .instanceMethod yX11_limit, .selects RX11 yX11_limit yX11_limit, .code yX11_limit cX11_limit 6 (some .int), .methodLink RL 116 yX12_limit, .instanceMethod yX12_limit, .selects RX12 yX12_limit yX12_limit, .code yX12_limit cX12_limit 8 (some .int)]
def wsK_2 : List Cond := [.methodLink RL 117 yL_out, .static yL_out, .codeWith yL_out cL_out 5 (some .int) [(0, 17, 20, 13)], .methodLink RL 25 yX11_out, .instanceMethod yX11_out, .selects RX11 yX11_out yX11_out, .code yX11_out cX11_out 4 (some .boolean), .methodLink RL 120 yX12_out, .instanceMethod yX12_out, .selects RX12 yX12_out yX12_out, .code yX12_out cX12_out 5 (some .boolean), .methodLink RL 121 yL_holiday, .static yL_holiday, .codeWith yL_holiday cL_holiday 6 (some .int) [(0, 19, 22, 13), (0, 19, 26, 15)], .methodLink RL 29 yX11_holiday, .instanceMethod yX11_holiday, .selects RX11 yX11_holiday yX11_holiday, .code yX11_holiday cX11_holiday 4 (some .boolean), .methodLink RL 124 yX12_holiday, .instanceMethod yX12_holiday, .selects RX12 yX12_holiday yX12_holiday, .code yX12_holiday cX12_holiday 5 (some .boolean), .methodLink RL 125 yL_list, .static yL_list, .codeWith yL_list cL_list 5 (some .int) [(0, 10, 13, 13)]]
def wsK_3 : List Cond := [.methodLink RL 33 yX11_list, .instanceMethod yX11_list, .selects RX11 yX11_list yX11_list, .code yX11_list cX11_list 4 (some .int), .methodLink RL 127 yX12_list, .instanceMethod yX12_list, .selects RX12 yX12_list yX12_list, .code yX12_list cX12_list 5 (some .int), .methodLink RL 128 yL_send, .static yL_send, .codeWith yL_send cL_send 13 (some .int) [(0, 26, 29, 13), (0, 26, 33, 15), (0, 26, 37, 41)], .classLink RL 41 "java/lang/IllegalStateException", .methodLink RL 37 yX11_send, .instanceMethod yX11_send, .selects RX11 yX11_send yX11_send, .code yX11_send cX11_send 14 (some .int), .methodLink RL 131 yX12_send, .instanceMethod yX12_send, .selects RX12 yX12_send yX12_send, .code yX12_send cX12_send 16 (some .int), .methodLink RL 132 yX11_doubles, .instanceMethod yX11_doubles, .selects RX11 yX11_doubles yX11_doubles, .code yX11_doubles cX11_doubles 1 (some .int), .methodLink RL 135 yX12_doubles]
def wsK_4 : List Cond := [.instanceMethod yX12_doubles, .selects RX12 yX12_doubles yX12_doubles, .code yX12_doubles cX12_doubles 1 (some .int), .methodLink RL 136 yL_join, .static yL_join, .codeWith yL_join cL_join 4 (some .int) [(0, 6, 9, 13), (0, 6, 12, 41)], .methodLink RL 43 yX11_join, .instanceMethod yX11_join, .selects RX11 yX11_join yX11_join, .code yX11_join cX11_join 5 none, .methodLink RL 139 yX12_join, .instanceMethod yX12_join, .selects RX12 yX12_join yX12_join, .code yX12_join cX12_join 5 none, .methodLink RL 140 yL_withdraw, .static yL_withdraw, .codeWith yL_withdraw cL_withdraw 4 (some .int) [(0, 9, 12, 13), (0, 9, 15, 41)], .methodLink RL 47 yX11_withdraw, .instanceMethod yX11_withdraw, .selects RX11 yX11_withdraw yX11_withdraw, .code yX11_withdraw cX11_withdraw 4 (some .int), .methodLink RL 143 yX12_withdraw, .instanceMethod yX12_withdraw, .selects RX12 yX12_withdraw yX12_withdraw, .code yX12_withdraw cX12_withdraw 5 (some .int)]
def wsK_5 : List Cond := [.methodLink RL 144 yL_release, .static yL_release, .codeWith yL_release cL_release 5 (some .int) [(0, 17, 20, 13), (0, 17, 24, 41)], .methodLink RL 51 yX11_release, .instanceMethod yX11_release, .selects RX11 yX11_release yX11_release, .code yX11_release cX11_release 5 (some .boolean), .methodLink RL 147 yX12_release, .instanceMethod yX12_release, .selects RX12 yX12_release yX12_release, .code yX12_release cX12_release 6 (some .boolean), .methodLink RL 148 yL_refuse, .static yL_refuse, .codeWith yL_refuse cL_refuse 4 (some .int) [(0, 9, 12, 13), (0, 9, 15, 41)], .methodLink RL 55 yX11_refuse, .instanceMethod yX11_refuse, .selects RX11 yX11_refuse yX11_refuse, .code yX11_refuse cX11_refuse 4 (some .int), .methodLink RL 150 yX12_refuse, .instanceMethod yX12_refuse, .selects RX12 yX12_refuse yX12_refuse, .code yX12_refuse cX12_refuse 5 (some .int), .methodLink RL 151 yL_offset, .static yL_offset, .codeWith yL_offset cL_offset 4 (some .int) [(0, 9, 12, 13)]]
def wsK_6 : List Cond := [.methodLink RL 58 yX11_offset, .instanceMethod yX11_offset, .selects RX11 yX11_offset yX11_offset, .code yX11_offset cX11_offset 3 (some .int), .methodLink RL 153 yX12_offset, .instanceMethod yX12_offset, .selects RX12 yX12_offset yX12_offset, .code yX12_offset cX12_offset 4 (some .int), .methodLink RL 154 yL_recall, .static yL_recall, .codeWith yL_recall cL_recall 4 (some .int) [(0, 9, 12, 13), (0, 9, 15, 41)], .methodLink RL 61 yX11_recall, .instanceMethod yX11_recall, .selects RX11 yX11_recall yX11_recall, .code yX11_recall cX11_recall 4 (some .int), .methodLink RL 156 yX12_recall, .instanceMethod yX12_recall, .selects RX12 yX12_recall yX12_recall, .code yX12_recall cX12_recall 3 (some .int), .methodLink RL 157 yL_answer, .static yL_answer, .codeWith yL_answer cL_answer 5 (some .int) [(0, 10, 13, 13), (0, 10, 17, 41)], .methodLink RL 64 yX11_answer, .instanceMethod yX11_answer, .selects RX11 yX11_answer yX11_answer]
def wsK_7 : List Cond := [.code yX11_answer cX11_answer 5 (some .int), .methodLink RL 159 yX12_answer, .instanceMethod yX12_answer, .selects RX12 yX12_answer yX12_answer, .code yX12_answer cX12_answer 7 (some .int), .methodLink RL 160 yL_endDay, .static yL_endDay, .codeWith yL_endDay cL_endDay 3 (some .int) [(0, 8, 11, 41)], .methodLink RL 67 yX11_endDay, .instanceMethod yX11_endDay, .selects RX11 yX11_endDay yX11_endDay, .code yX11_endDay cX11_endDay 2 (some .int), .methodLink RL 163 yX12_endDay, .instanceMethod yX12_endDay, .selects RX12 yX12_endDay yX12_endDay, .code yX12_endDay cX12_endDay 4 (some .int), .methodLink RL 164 yX11_today, .instanceMethod yX11_today, .selects RX11 yX11_today yX11_today, .code yX11_today cX11_today 1 (some .int), .methodLink RL 167 yX12_today, .instanceMethod yX12_today, .selects RX12 yX12_today yX12_today, .code yX12_today cX12_today 1 (some .int), .methodLink RL 168 yL_account]
def wsK_8 : List Cond := [.static yL_account, .codeWith yL_account cL_account 5 (some .int) [(0, 9, 12, 13)], .methodLink RL 71 yX11_account, .instanceMethod yX11_account, .selects RX11 yX11_account yX11_account, .code yX11_account cX11_account 3 (some .long), .methodLink RL 170 yX12_account, .instanceMethod yX12_account, .selects RX12 yX12_account yX12_account, .code yX12_account cX12_account 3 (some .long), .methodLink RL 171 yL_accountAnew, .static yL_accountAnew, .codeWith yL_accountAnew cL_accountAnew 5 (some .int) [(0, 9, 12, 13)], .methodLink RL 75 yX11_accountAnew, .instanceMethod yX11_accountAnew, .selects RX11 yX11_accountAnew yX11_accountAnew, .code yX11_accountAnew cX11_accountAnew 3 (some .long), .methodLink RL 173 yX12_accountAnew, .instanceMethod yX12_accountAnew, .selects RX12 yX12_accountAnew yX12_accountAnew, .code yX12_accountAnew cX12_accountAnew 7 (some .long), .methodLink RL 174 yL_paid, .static yL_paid, .codeWith yL_paid cL_paid 6 (some .int) [(0, 11, 14, 13)], .methodLink RL 78 yX11_paid]
def wsK_9 : List Cond := [.instanceMethod yX11_paid, .selects RX11 yX11_paid yX11_paid, .code yX11_paid cX11_paid 4 (some .long), .methodLink RL 176 yX12_paid, .instanceMethod yX12_paid, .selects RX12 yX12_paid yX12_paid, .code yX12_paid cX12_paid 4 (some .long), .methodLink RL 177 yX11_payments, .instanceMethod yX11_payments, .selects RX11 yX11_payments yX11_payments, .code yX11_payments cX11_payments 1 (some .int), .methodLink RL 180 yX12_payments, .instanceMethod yX12_payments, .selects RX12 yX12_payments yX12_payments, .code yX12_payments cX12_payments 1 (some .int), .methodLink RL 181 yL_stateOf, .static yL_stateOf, .codeWith yL_stateOf cL_stateOf 4 (some .int) [(0, 9, 12, 13)], .methodLink RL 81 yX11_stateOf, .instanceMethod yX11_stateOf, .selects RX11 yX11_stateOf yX11_stateOf, .code yX11_stateOf cX11_stateOf 2 (some .int), .methodLink RL 183 yX12_stateOf, .instanceMethod yX12_stateOf, .selects RX12 yX12_stateOf yX12_stateOf]
def wsK_10 : List Cond := [.code yX12_stateOf cX12_stateOf 2 (some .int), .methodLink RL 184 yL_queueAt, .static yL_queueAt, .codeWith yL_queueAt cL_queueAt 6 (some .int) [(0, 12, 15, 13)], .methodLink RL 84 yX11_queueAt, .instanceMethod yX11_queueAt, .selects RX11 yX11_queueAt yX11_queueAt, .code yX11_queueAt cX11_queueAt 4 (some .int), .methodLink RL 186 yX12_queueAt, .instanceMethod yX12_queueAt, .selects RX12 yX12_queueAt yX12_queueAt, .code yX12_queueAt cX12_queueAt 4 (some .int), .methodLink RL 187 yX11_entries, .instanceMethod yX11_entries, .selects RX11 yX11_entries yX11_entries, .code yX11_entries cX11_entries 1 (some .int), .methodLink RL 190 yX12_entries, .instanceMethod yX12_entries, .selects RX12 yX12_entries yX12_entries, .code yX12_entries cX12_entries 1 (some .int), .methodLink RL 191 yL_entryAt, .static yL_entryAt, .codeWith yL_entryAt cL_entryAt 5 (some .int) [(0, 9, 12, 13), (0, 9, 16, 15)], .methodLink RL 87 yX11_entryAt, .instanceMethod yX11_entryAt]
def wsK_11 : List Cond := [.selects RX11 yX11_entryAt yX11_entryAt, .code yX11_entryAt cX11_entryAt 4 (some .long), .methodLink RL 193 yX12_entryAt, .instanceMethod yX12_entryAt, .selects RX12 yX12_entryAt yX12_entryAt, .code yX12_entryAt cX12_entryAt 3 (some .long), .methodLink RL 194 yL_advice, .static yL_advice, .codeWith yL_advice cL_advice 4 (some .int) [(0, 9, 12, 13)], .methodLink RL 90 yX11_advice, .instanceMethod yX11_advice, .selects RX11 yX11_advice yX11_advice, .code yX11_advice cX11_advice 2 (some .int), .methodLink RL 196 yX12_advice, .instanceMethod yX12_advice, .selects RX12 yX12_advice yX12_advice, .code yX12_advice cX12_advice 3 (some .int), .methodLink RL 197 yL_again, .static yL_again, .codeWith yL_again cL_again 5 (some .int) [(0, 10, 13, 13), (0, 10, 17, 15)], .methodLink RL 93 yX11_again, .instanceMethod yX11_again, .selects RX11 yX11_again yX11_again, .code yX11_again cX11_again 3 (some .int), .methodLink RL 199 yX12_again]
def wsK_12 : List Cond := [.instanceMethod yX12_again, .selects RX12 yX12_again yX12_again, .code yX12_again cX12_again 6 (some .int)]
set_option maxRecDepth 20000 in
theorem wsC_0_in : GoodIn lw_tbl wsC_0 := goodIn_p wsC_0 [77, 135, 132, 129] (by decide +kernel) (by decide +kernel)
set_option maxRecDepth 20000 in
theorem wsC_1_in : GoodIn lw_tbl wsC_1 := goodIn_p wsC_1 [98, 123, 94] (by decide +kernel) (by decide +kernel)
set_option maxRecDepth 20000 in
theorem wsC_2_in : GoodIn lw_tbl wsC_2 := goodIn_p wsC_2 [161, 409, 595, 574, 467] (by decide +kernel) (by decide +kernel)
set_option maxRecDepth 20000 in
theorem wsC_3_in : GoodIn lw_tbl wsC_3 := goodIn_p wsC_3 [500, 494, 462, 470] (by decide +kernel) (by decide +kernel)
set_option maxRecDepth 20000 in
theorem wsC_4_in : GoodIn lw_tbl wsC_4 := goodIn_p wsC_4 [459, 455, 451, 293, 447] (by decide +kernel) (by decide +kernel)
set_option maxRecDepth 20000 in
theorem wsC_5_in : GoodIn lw_tbl wsC_5 := goodIn_p wsC_5 [413, 418, 443, 406, 583] (by decide +kernel) (by decide +kernel)
set_option maxRecDepth 20000 in
theorem wsC_6_in : GoodIn lw_tbl wsC_6 := goodIn_p wsC_6 [995, 556] (by decide +kernel) (by decide +kernel)
set_option maxRecDepth 20000 in
theorem wsC_7_in : GoodIn lw_tbl wsC_7 := goodIn_p wsC_7 [570, 578, 599, 608] (by decide +kernel) (by decide +kernel)
set_option maxRecDepth 20000 in
theorem wsC_8_in : GoodIn lw_tbl wsC_8 := goodIn_p wsC_8 [591, 604, 527, 524, 531, 521] (by decide +kernel) (by decide +kernel)
set_option maxRecDepth 20000 in
theorem wsC_9_in : GoodIn lw_tbl wsC_9 := goodIn_p wsC_9 [552] (by decide +kernel) (by decide +kernel)
set_option maxRecDepth 20000 in
theorem wsC_10_in : GoodIn lw_tbl wsC_10 := goodIn_p wsC_10 [88, 117] (by decide +kernel) (by decide +kernel)
set_option maxRecDepth 20000 in
theorem wsC_11_in : GoodIn lw_tbl wsC_11 := goodIn_p wsC_11 [183, 202, 225, 813] (by decide +kernel) (by decide +kernel)
set_option maxRecDepth 20000 in
theorem wsC_12_in : GoodIn lw_tbl wsC_12 := goodIn_p wsC_12 [809, 548, 865] (by decide +kernel) (by decide +kernel)
set_option maxRecDepth 20000 in
theorem wsC_13_in : GoodIn lw_tbl wsC_13 := goodIn_p wsC_13 [733, 787, 289] (by decide +kernel) (by decide +kernel)
set_option maxRecDepth 20000 in
theorem wsC_14_in : GoodIn lw_tbl wsC_14 := goodIn_p wsC_14 [617, 536, 540, 621, 626] (by decide +kernel) (by decide +kernel)
set_option maxRecDepth 20000 in
theorem wsC_15_in : GoodIn lw_tbl wsC_15 := goodIn_p wsC_15 [632, 517, 544, 561, 566, 587] (by decide +kernel) (by decide +kernel)
set_option maxRecDepth 20000 in
theorem wsC_16_in : GoodIn lw_tbl wsC_16 := goodIn_p wsC_16 [612, 513, 943, 938, 949] (by decide +kernel) (by decide +kernel)
set_option maxRecDepth 20000 in
theorem wsC_17_in : GoodIn lw_tbl wsC_17 := goodIn_p wsC_17 [891, 907, 640, 999] (by decide +kernel) (by decide +kernel)
set_option maxRecDepth 20000 in
theorem wsC_18_in : GoodIn lw_tbl wsC_18 := goodIn_p wsC_18 [1003, 933, 986, 991, 1010, 1014] (by decide +kernel) (by decide +kernel)
set_option maxRecDepth 20000 in
theorem wsC_19_in : GoodIn lw_tbl wsC_19 := goodIn_p wsC_19 [895, 82, 314, 386] (by decide +kernel) (by decide +kernel)
set_option maxRecDepth 20000 in
theorem wsC_20_in : GoodIn lw_tbl wsC_20 := goodIn_p wsC_20 [509, 651, 662, 668] (by decide +kernel) (by decide +kernel)
set_option maxRecDepth 20000 in
theorem wsC_21_in : GoodIn lw_tbl wsC_21 := goodIn_p wsC_21 [688, 701, 712, 791] (by decide +kernel) (by decide +kernel)
set_option maxRecDepth 20000 in
theorem wsC_22_in : GoodIn lw_tbl wsC_22 := goodIn_p wsC_22 [797, 801, 805, 869, 881, 887] (by decide +kernel) (by decide +kernel)
set_option maxRecDepth 20000 in
theorem wsC_23_in : GoodIn lw_tbl wsC_23 := goodIn_p wsC_23 [967, 981, 1032] (by decide +kernel) (by decide +kernel)
set_option maxRecDepth 20000 in
theorem wsC_24_in : GoodIn lw_tbl wsC_24 := goodIn_p wsC_24 [1045, 1064, 301, 1077, 1082, 1093] (by decide +kernel) (by decide +kernel)
set_option maxRecDepth 20000 in
theorem wsC_25_in : GoodIn lw_tbl wsC_25 := goodIn_p wsC_25 [1105, 1109] (by decide +kernel) (by decide +kernel)
set_option maxRecDepth 20000 in
theorem wsM_0_in : GoodIn lw_tbl wsM_0 := goodIn_p wsM_0 [77] (by decide +kernel) (by decide +kernel)
set_option maxRecDepth 20000 in
theorem wsM_1_in : GoodIn lw_tbl wsM_1 := goodIn_p wsM_1 [1244, 1294] (by decide +kernel) (by decide +kernel)
set_option maxRecDepth 20000 in
theorem wsM_2_in : GoodIn lw_tbl wsM_2 := goodIn_p wsM_2 [1297, 1309, 1313, 1267, 1321, 1283] (by decide +kernel) (by decide +kernel)
set_option maxRecDepth 20000 in
theorem wsM_3_in : GoodIn lw_tbl wsM_3 := goodIn_p wsM_3 [1287, 1291, 1301, 1305, 1317, 1279] (by decide +kernel) (by decide +kernel)
set_option maxRecDepth 20000 in
theorem wsM_4_in : GoodIn lw_tbl wsM_4 := goodIn_p wsM_4 [1369, 1373, 1271, 1241, 1247, 1250, 1255] (by decide +kernel) (by decide +kernel)
set_option maxRecDepth 20000 in
theorem wsM_5_in : GoodIn lw_tbl wsM_5 := goodIn_p wsM_5 [1259, 1263, 1275, 1341, 1333, 1337] (by decide +kernel) (by decide +kernel)
set_option maxRecDepth 20000 in
theorem wsM_6_in : GoodIn lw_tbl wsM_6 := goodIn_p wsM_6 [1349, 1365, 1413, 1417, 1430, 1466] (by decide +kernel) (by decide +kernel)
set_option maxRecDepth 20000 in
theorem wsK_0_in : GoodIn lw_tbl wsK_0 := goodIn_p wsK_0 [74, 1114, 311, 1385] (by decide +kernel) (by decide +kernel)
set_option maxRecDepth 20000 in
theorem wsK_1_in : GoodIn lw_tbl wsK_1 := goodIn_p wsK_1 [1234, 647, 1389, 659, 1393] (by decide +kernel) (by decide +kernel)
set_option maxRecDepth 20000 in
theorem wsK_2_in : GoodIn lw_tbl wsK_2 := goodIn_p wsK_2 [675, 1397, 684, 1401] (by decide +kernel) (by decide +kernel)
set_option maxRecDepth 20000 in
theorem wsK_3_in : GoodIn lw_tbl wsK_3 := goodIn_p wsK_3 [697, 1405, 709, 1238, 277] (by decide +kernel) (by decide +kernel)
set_option maxRecDepth 20000 in
theorem wsK_4_in : GoodIn lw_tbl wsK_4 := goodIn_p wsK_4 [1325, 877, 1329, 902, 1345] (by decide +kernel) (by decide +kernel)
set_option maxRecDepth 20000 in
theorem wsK_5_in : GoodIn lw_tbl wsK_5 := goodIn_p wsK_5 [914, 1353, 922, 1357] (by decide +kernel) (by decide +kernel)
set_option maxRecDepth 20000 in
theorem wsK_6_in : GoodIn lw_tbl wsK_6 := goodIn_p wsK_6 [929, 1361, 956, 1377] (by decide +kernel) (by decide +kernel)
set_option maxRecDepth 20000 in
theorem wsK_7_in : GoodIn lw_tbl wsK_7 := goodIn_p wsK_7 [963, 1381, 977, 1409, 281, 1423] (by decide +kernel) (by decide +kernel)
set_option maxRecDepth 20000 in
theorem wsK_8_in : GoodIn lw_tbl wsK_8 := goodIn_p wsK_8 [1021, 1427, 1028, 1434] (by decide +kernel) (by decide +kernel)
set_option maxRecDepth 20000 in
theorem wsK_9_in : GoodIn lw_tbl wsK_9 := goodIn_p wsK_9 [1041, 1438, 285, 1442, 1052] (by decide +kernel) (by decide +kernel)
set_option maxRecDepth 20000 in
theorem wsK_10_in : GoodIn lw_tbl wsK_10 := goodIn_p wsK_10 [1446, 1059, 1450, 297, 1454] (by decide +kernel) (by decide +kernel)
set_option maxRecDepth 20000 in
theorem wsK_11_in : GoodIn lw_tbl wsK_11 := goodIn_p wsK_11 [1073, 1458, 1089, 1462, 1101] (by decide +kernel) (by decide +kernel)
set_option maxRecDepth 20000 in
theorem wsK_12_in : GoodIn lw_tbl wsK_12 := goodIn_p wsK_12 [1470] (by decide +kernel) (by decide +kernel)
theorem wsX00_in : GoodIn lw_tbl wsX00 := goodIn_p wsX00 [] rfl (by decide +kernel)
theorem wsX10_in : GoodIn lw_tbl wsX10 := goodIn_p wsX10 [] rfl (by decide +kernel)
theorem wsX20_in : GoodIn lw_tbl wsX20 := goodIn_p wsX20 [] rfl (by decide +kernel)
theorem wsX30_in : GoodIn lw_tbl wsX30 := goodIn_p wsX30 [] rfl (by decide +kernel)
theorem wsX40_in : GoodIn lw_tbl wsX40 := goodIn_p wsX40 [] rfl (by decide +kernel)
theorem wsX50_in : GoodIn lw_tbl wsX50 := goodIn_p wsX50 [] rfl (by decide +kernel)
theorem wsX60_in : GoodIn lw_tbl wsX60 := goodIn_p wsX60 [] rfl (by decide +kernel)
theorem wsX70_in : GoodIn lw_tbl wsX70 := goodIn_p wsX70 [] rfl (by decide +kernel)
theorem wsX80_in : GoodIn lw_tbl wsX80 := goodIn_p wsX80 [] rfl (by decide +kernel)
theorem wsX90_in : GoodIn lw_tbl wsX90 := goodIn_p wsX90 [] rfl (by decide +kernel)
theorem wsX100_in : GoodIn lw_tbl wsX100 := goodIn_p wsX100 [] rfl (by decide +kernel)
theorem wsX110_in : GoodIn lw_tbl wsX110 := goodIn_p wsX110 [] rfl (by decide +kernel)
theorem wsX120_in : GoodIn lw_tbl wsX120 := goodIn_p wsX120 [] rfl (by decide +kernel)
theorem wsJx4a65c0_in : GoodIn lw_tbl wsJx4a65c0 := goodIn_p wsJx4a65c0 [] rfl (by decide +kernel)
