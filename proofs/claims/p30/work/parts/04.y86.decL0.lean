theorem dL_at_0 : decode cL_at 0 = .ok (.iload_n 1, 1) := by decide +kernel
theorem dL_at_1 : decode cL_at 1 = .ok (.aload_n 0, 1) := by decide +kernel
theorem dL_at_2 : decode cL_at 2 = .ok (.arraylength, 1) := by decide +kernel
theorem dL_at_3 : decode cL_at 3 = .ok (.if_icmp .ge 9, 3) := by decide +kernel
theorem dL_at_6 : decode cL_at 6 = .ok (.aload_n 0, 1) := by decide +kernel
theorem dL_at_7 : decode cL_at 7 = .ok (.iload_n 1, 1) := by decide +kernel
theorem dL_at_8 : decode cL_at 8 = .ok (.iaload, 1) := by decide +kernel
theorem dL_at_9 : decode cL_at 9 = .ok (.goto 12, 3) := by decide +kernel
theorem dL_at_12 : decode cL_at 12 = .ok (.ldc 7, 2) := by decide +kernel
theorem dL_at_14 : decode cL_at 14 = .ok (.iload_n 1, 1) := by decide +kernel
theorem dL_at_15 : decode cL_at 15 = .ok (.iconst 1, 1) := by decide +kernel
theorem dL_at_16 : decode cL_at 16 = .ok (.iadd, 1) := by decide +kernel
theorem dL_at_17 : decode cL_at 17 = .ok (.imul, 1) := by decide +kernel
theorem dL_at_18 : decode cL_at 18 = .ok (.ldc 8, 2) := by decide +kernel
theorem dL_at_20 : decode cL_at 20 = .ok (.iadd, 1) := by decide +kernel
theorem dL_at_21 : decode cL_at 21 = .ok (.ireturn, 1) := by decide +kernel
theorem dL_low_0 : decode cL_low 0 = .ok (.iload_n 0, 1) := by decide +kernel
theorem dL_low_1 : decode cL_low 1 = .ok (.ldc 9, 2) := by decide +kernel
theorem dL_low_3 : decode cL_low 3 = .ok (.iand, 1) := by decide +kernel
theorem dL_low_4 : decode cL_low 4 = .ok (.iload_n 1, 1) := by decide +kernel
theorem dL_low_5 : decode cL_low 5 = .ok (.irem, 1) := by decide +kernel
theorem dL_low_6 : decode cL_low 6 = .ok (.ireturn, 1) := by decide +kernel
theorem dL_line_0 : decode cL_line 0 = .ok (.aload_n 0, 1) := by decide +kernel
theorem dL_line_1 : decode cL_line 1 = .ok (.iload_n 1, 1) := by decide +kernel
theorem dL_line_2 : decode cL_line 2 = .ok (.iload_n 2, 1) := by decide +kernel
theorem dL_line_3 : decode cL_line 3 = .ok (.iload_n 3, 1) := by decide +kernel
theorem dL_line_4 : decode cL_line 4 = .ok (.invokevirtual 10, 3) := by decide +kernel
theorem dL_line_7 : decode cL_line 7 = .ok (.ireturn, 1) := by decide +kernel
theorem dL_line_8 : decode cL_line 8 = .ok (.astore 4, 2) := by decide +kernel
theorem dL_line_10 : decode cL_line 10 = .ok (.ldc 18, 2) := by decide +kernel
theorem dL_line_12 : decode cL_line 12 = .ok (.ireturn, 1) := by decide +kernel
theorem dL_line_13 : decode cL_line 13 = .ok (.astore 4, 2) := by decide +kernel
theorem dL_line_15 : decode cL_line 15 = .ok (.ldc 21, 2) := by decide +kernel
theorem dL_line_17 : decode cL_line 17 = .ok (.ireturn, 1) := by decide +kernel
theorem dL_limit_0 : decode cL_limit 0 = .ok (.aload_n 0, 1) := by decide +kernel
theorem dL_limit_1 : decode cL_limit 1 = .ok (.iload_n 1, 1) := by decide +kernel
theorem dL_limit_2 : decode cL_limit 2 = .ok (.iload_n 2, 1) := by decide +kernel
theorem dL_limit_3 : decode cL_limit 3 = .ok (.iload_n 3, 1) := by decide +kernel
theorem dL_limit_4 : decode cL_limit 4 = .ok (.iload 4, 2) := by decide +kernel
theorem dL_limit_6 : decode cL_limit 6 = .ok (.invokevirtual 22, 3) := by decide +kernel
theorem dL_limit_9 : decode cL_limit 9 = .ok (.ireturn, 1) := by decide +kernel
theorem dL_limit_10 : decode cL_limit 10 = .ok (.astore 5, 2) := by decide +kernel
theorem dL_limit_12 : decode cL_limit 12 = .ok (.ldc 18, 2) := by decide +kernel
theorem dL_limit_14 : decode cL_limit 14 = .ok (.ireturn, 1) := by decide +kernel
theorem dL_limit_15 : decode cL_limit 15 = .ok (.astore 5, 2) := by decide +kernel
theorem dL_limit_17 : decode cL_limit 17 = .ok (.ldc 21, 2) := by decide +kernel
theorem dL_limit_19 : decode cL_limit 19 = .ok (.ireturn, 1) := by decide +kernel
theorem dL_out_0 : decode cL_out 0 = .ok (.aload_n 0, 1) := by decide +kernel
theorem dL_out_1 : decode cL_out 1 = .ok (.iload_n 1, 1) := by decide +kernel
theorem dL_out_2 : decode cL_out 2 = .ok (.iload_n 2, 1) := by decide +kernel
theorem dL_out_3 : decode cL_out 3 = .ok (.invokevirtual 26, 3) := by decide +kernel
theorem dL_out_6 : decode cL_out 6 = .ok (.ifCond .eq 7, 3) := by decide +kernel
theorem dL_out_9 : decode cL_out 9 = .ok (.iconst 1, 1) := by decide +kernel
theorem dL_out_10 : decode cL_out 10 = .ok (.goto 4, 3) := by decide +kernel
theorem dL_out_13 : decode cL_out 13 = .ok (.iconst 0, 1) := by decide +kernel
theorem dL_out_14 : decode cL_out 14 = .ok (.ireturn, 1) := by decide +kernel
theorem dL_out_15 : decode cL_out 15 = .ok (.astore_n 3, 1) := by decide +kernel
theorem dL_out_16 : decode cL_out 16 = .ok (.ldc 18, 2) := by decide +kernel
theorem dL_out_18 : decode cL_out 18 = .ok (.ireturn, 1) := by decide +kernel
theorem dL_holiday_0 : decode cL_holiday 0 = .ok (.aload_n 0, 1) := by decide +kernel
theorem dL_holiday_1 : decode cL_holiday 1 = .ok (.iload_n 1, 1) := by decide +kernel
theorem dL_holiday_2 : decode cL_holiday 2 = .ok (.iload_n 2, 1) := by decide +kernel
theorem dL_holiday_3 : decode cL_holiday 3 = .ok (.iload_n 3, 1) := by decide +kernel
theorem dL_holiday_4 : decode cL_holiday 4 = .ok (.invokevirtual 30, 3) := by decide +kernel
theorem dL_holiday_7 : decode cL_holiday 7 = .ok (.ifCond .eq 7, 3) := by decide +kernel
theorem dL_holiday_10 : decode cL_holiday 10 = .ok (.iconst 1, 1) := by decide +kernel
theorem dL_holiday_11 : decode cL_holiday 11 = .ok (.goto 4, 3) := by decide +kernel
theorem dL_holiday_14 : decode cL_holiday 14 = .ok (.iconst 0, 1) := by decide +kernel
theorem dL_holiday_15 : decode cL_holiday 15 = .ok (.ireturn, 1) := by decide +kernel
theorem dL_holiday_16 : decode cL_holiday 16 = .ok (.astore 4, 2) := by decide +kernel
theorem dL_holiday_18 : decode cL_holiday 18 = .ok (.ldc 18, 2) := by decide +kernel
theorem dL_holiday_20 : decode cL_holiday 20 = .ok (.ireturn, 1) := by decide +kernel
theorem dL_holiday_21 : decode cL_holiday 21 = .ok (.astore 4, 2) := by decide +kernel
theorem dL_holiday_23 : decode cL_holiday 23 = .ok (.ldc 21, 2) := by decide +kernel
theorem dL_holiday_25 : decode cL_holiday 25 = .ok (.ireturn, 1) := by decide +kernel
theorem dL_list_0 : decode cL_list 0 = .ok (.aload_n 0, 1) := by decide +kernel
theorem dL_list_1 : decode cL_list 1 = .ok (.iload_n 1, 1) := by decide +kernel
theorem dL_list_2 : decode cL_list 2 = .ok (.iload_n 2, 1) := by decide +kernel
theorem dL_list_3 : decode cL_list 3 = .ok (.invokevirtual 34, 3) := by decide +kernel
theorem dL_list_6 : decode cL_list 6 = .ok (.ireturn, 1) := by decide +kernel
theorem dL_list_7 : decode cL_list 7 = .ok (.astore_n 3, 1) := by decide +kernel
theorem dL_list_8 : decode cL_list 8 = .ok (.ldc 18, 2) := by decide +kernel
theorem dL_list_10 : decode cL_list 10 = .ok (.ireturn, 1) := by decide +kernel
theorem dL_send_0 : decode cL_send 0 = .ok (.aload_n 0, 1) := by decide +kernel
theorem dL_send_1 : decode cL_send 1 = .ok (.iload_n 1, 1) := by decide +kernel
theorem dL_send_2 : decode cL_send 2 = .ok (.iload_n 2, 1) := by decide +kernel
theorem dL_send_3 : decode cL_send 3 = .ok (.iload_n 3, 1) := by decide +kernel
theorem dL_send_4 : decode cL_send 4 = .ok (.iload 4, 2) := by decide +kernel
theorem dL_send_6 : decode cL_send 6 = .ok (.iload 5, 2) := by decide +kernel
theorem dL_send_8 : decode cL_send 8 = .ok (.iload 6, 2) := by decide +kernel
theorem dL_send_10 : decode cL_send 10 = .ok (.iload 7, 2) := by decide +kernel
theorem dL_send_12 : decode cL_send 12 = .ok (.iload 8, 2) := by decide +kernel
theorem dL_send_14 : decode cL_send 14 = .ok (.iload 9, 2) := by decide +kernel
theorem dL_send_16 : decode cL_send 16 = .ok (.iload 10, 2) := by decide +kernel
theorem dL_send_18 : decode cL_send 18 = .ok (.invokevirtual 38, 3) := by decide +kernel
theorem dL_send_21 : decode cL_send 21 = .ok (.ireturn, 1) := by decide +kernel
theorem dL_send_22 : decode cL_send 22 = .ok (.astore 11, 2) := by decide +kernel
theorem dL_send_24 : decode cL_send 24 = .ok (.ldc 18, 2) := by decide +kernel
theorem dL_send_26 : decode cL_send 26 = .ok (.ireturn, 1) := by decide +kernel
theorem dL_send_27 : decode cL_send 27 = .ok (.astore 11, 2) := by decide +kernel
theorem dL_send_29 : decode cL_send 29 = .ok (.ldc 21, 2) := by decide +kernel
theorem dL_send_31 : decode cL_send 31 = .ok (.ireturn, 1) := by decide +kernel
theorem dL_send_32 : decode cL_send 32 = .ok (.astore 11, 2) := by decide +kernel
theorem dL_send_34 : decode cL_send 34 = .ok (.ldc 44, 2) := by decide +kernel
theorem dL_send_36 : decode cL_send 36 = .ok (.ireturn, 1) := by decide +kernel
theorem dL_join_0 : decode cL_join 0 = .ok (.aload_n 0, 1) := by decide +kernel
theorem dL_join_1 : decode cL_join 1 = .ok (.iload_n 1, 1) := by decide +kernel
theorem dL_join_2 : decode cL_join 2 = .ok (.iload_n 2, 1) := by decide +kernel
theorem dL_join_3 : decode cL_join 3 = .ok (.invokevirtual 45, 3) := by decide +kernel
theorem dL_join_6 : decode cL_join 6 = .ok (.iconst 0, 1) := by decide +kernel
theorem dL_join_7 : decode cL_join 7 = .ok (.ireturn, 1) := by decide +kernel
theorem dL_join_8 : decode cL_join 8 = .ok (.astore_n 3, 1) := by decide +kernel
theorem dL_join_9 : decode cL_join 9 = .ok (.ldc 18, 2) := by decide +kernel
theorem dL_join_11 : decode cL_join 11 = .ok (.ireturn, 1) := by decide +kernel
theorem dL_join_12 : decode cL_join 12 = .ok (.astore_n 3, 1) := by decide +kernel
theorem dL_join_13 : decode cL_join 13 = .ok (.ldc 44, 2) := by decide +kernel
theorem dL_join_15 : decode cL_join 15 = .ok (.ireturn, 1) := by decide +kernel
theorem dL_withdraw_0 : decode cL_withdraw 0 = .ok (.aload_n 0, 1) := by decide +kernel
theorem dL_withdraw_1 : decode cL_withdraw 1 = .ok (.iload_n 1, 1) := by decide +kernel
theorem dL_withdraw_2 : decode cL_withdraw 2 = .ok (.invokevirtual 49, 3) := by decide +kernel
theorem dL_withdraw_5 : decode cL_withdraw 5 = .ok (.ireturn, 1) := by decide +kernel
theorem dL_withdraw_6 : decode cL_withdraw 6 = .ok (.astore_n 2, 1) := by decide +kernel
theorem dL_withdraw_7 : decode cL_withdraw 7 = .ok (.ldc 18, 2) := by decide +kernel
theorem dL_withdraw_9 : decode cL_withdraw 9 = .ok (.ireturn, 1) := by decide +kernel
theorem dL_withdraw_10 : decode cL_withdraw 10 = .ok (.astore_n 2, 1) := by decide +kernel
theorem dL_withdraw_11 : decode cL_withdraw 11 = .ok (.ldc 44, 2) := by decide +kernel
theorem dL_withdraw_13 : decode cL_withdraw 13 = .ok (.ireturn, 1) := by decide +kernel
theorem dL_release_0 : decode cL_release 0 = .ok (.aload_n 0, 1) := by decide +kernel
theorem dL_release_1 : decode cL_release 1 = .ok (.iload_n 1, 1) := by decide +kernel
theorem dL_release_2 : decode cL_release 2 = .ok (.iload_n 2, 1) := by decide +kernel
theorem dL_release_3 : decode cL_release 3 = .ok (.invokevirtual 53, 3) := by decide +kernel
theorem dL_release_6 : decode cL_release 6 = .ok (.ifCond .eq 7, 3) := by decide +kernel
theorem dL_release_9 : decode cL_release 9 = .ok (.iconst 1, 1) := by decide +kernel
theorem dL_release_10 : decode cL_release 10 = .ok (.goto 4, 3) := by decide +kernel
theorem dL_release_13 : decode cL_release 13 = .ok (.iconst 0, 1) := by decide +kernel
theorem dL_release_14 : decode cL_release 14 = .ok (.ireturn, 1) := by decide +kernel
theorem dL_release_15 : decode cL_release 15 = .ok (.astore_n 3, 1) := by decide +kernel
theorem dL_release_16 : decode cL_release 16 = .ok (.ldc 18, 2) := by decide +kernel
theorem dL_release_18 : decode cL_release 18 = .ok (.ireturn, 1) := by decide +kernel
theorem dL_release_19 : decode cL_release 19 = .ok (.astore_n 3, 1) := by decide +kernel
theorem dL_release_20 : decode cL_release 20 = .ok (.ldc 44, 2) := by decide +kernel
theorem dL_release_22 : decode cL_release 22 = .ok (.ireturn, 1) := by decide +kernel
theorem dL_refuse_0 : decode cL_refuse 0 = .ok (.aload_n 0, 1) := by decide +kernel
theorem dL_refuse_1 : decode cL_refuse 1 = .ok (.iload_n 1, 1) := by decide +kernel
theorem dL_refuse_2 : decode cL_refuse 2 = .ok (.invokevirtual 57, 3) := by decide +kernel
theorem dL_refuse_5 : decode cL_refuse 5 = .ok (.ireturn, 1) := by decide +kernel
theorem dL_refuse_6 : decode cL_refuse 6 = .ok (.astore_n 2, 1) := by decide +kernel
theorem dL_refuse_7 : decode cL_refuse 7 = .ok (.ldc 18, 2) := by decide +kernel
theorem dL_refuse_9 : decode cL_refuse 9 = .ok (.ireturn, 1) := by decide +kernel
theorem dL_refuse_10 : decode cL_refuse 10 = .ok (.astore_n 2, 1) := by decide +kernel
theorem dL_refuse_11 : decode cL_refuse 11 = .ok (.ldc 44, 2) := by decide +kernel
theorem dL_refuse_13 : decode cL_refuse 13 = .ok (.ireturn, 1) := by decide +kernel
theorem dL_offset_0 : decode cL_offset 0 = .ok (.aload_n 0, 1) := by decide +kernel
theorem dL_offset_1 : decode cL_offset 1 = .ok (.iload_n 1, 1) := by decide +kernel
theorem dL_offset_2 : decode cL_offset 2 = .ok (.invokevirtual 60, 3) := by decide +kernel
theorem dL_offset_5 : decode cL_offset 5 = .ok (.ireturn, 1) := by decide +kernel
theorem dL_offset_6 : decode cL_offset 6 = .ok (.astore_n 2, 1) := by decide +kernel
theorem dL_offset_7 : decode cL_offset 7 = .ok (.ldc 18, 2) := by decide +kernel
theorem dL_offset_9 : decode cL_offset 9 = .ok (.ireturn, 1) := by decide +kernel
theorem dL_recall_0 : decode cL_recall 0 = .ok (.aload_n 0, 1) := by decide +kernel
theorem dL_recall_1 : decode cL_recall 1 = .ok (.iload_n 1, 1) := by decide +kernel
theorem dL_recall_2 : decode cL_recall 2 = .ok (.invokevirtual 63, 3) := by decide +kernel
theorem dL_recall_5 : decode cL_recall 5 = .ok (.ireturn, 1) := by decide +kernel
theorem dL_recall_6 : decode cL_recall 6 = .ok (.astore_n 2, 1) := by decide +kernel
theorem dL_recall_7 : decode cL_recall 7 = .ok (.ldc 18, 2) := by decide +kernel
theorem dL_recall_9 : decode cL_recall 9 = .ok (.ireturn, 1) := by decide +kernel
theorem dL_recall_10 : decode cL_recall 10 = .ok (.astore_n 2, 1) := by decide +kernel
theorem dL_recall_11 : decode cL_recall 11 = .ok (.ldc 44, 2) := by decide +kernel
theorem dL_recall_13 : decode cL_recall 13 = .ok (.ireturn, 1) := by decide +kernel
theorem dL_answer_0 : decode cL_answer 0 = .ok (.aload_n 0, 1) := by decide +kernel
theorem dL_answer_1 : decode cL_answer 1 = .ok (.iload_n 1, 1) := by decide +kernel
theorem dL_answer_2 : decode cL_answer 2 = .ok (.iload_n 2, 1) := by decide +kernel
theorem dL_answer_3 : decode cL_answer 3 = .ok (.invokevirtual 66, 3) := by decide +kernel
theorem dL_answer_6 : decode cL_answer 6 = .ok (.ireturn, 1) := by decide +kernel
theorem dL_answer_7 : decode cL_answer 7 = .ok (.astore_n 3, 1) := by decide +kernel
theorem dL_answer_8 : decode cL_answer 8 = .ok (.ldc 18, 2) := by decide +kernel
theorem dL_answer_10 : decode cL_answer 10 = .ok (.ireturn, 1) := by decide +kernel
theorem dL_answer_11 : decode cL_answer 11 = .ok (.astore_n 3, 1) := by decide +kernel
theorem dL_answer_12 : decode cL_answer 12 = .ok (.ldc 44, 2) := by decide +kernel
theorem dL_answer_14 : decode cL_answer 14 = .ok (.ireturn, 1) := by decide +kernel
theorem dL_endDay_0 : decode cL_endDay 0 = .ok (.aload_n 0, 1) := by decide +kernel
theorem dL_endDay_1 : decode cL_endDay 1 = .ok (.invokevirtual 69, 3) := by decide +kernel
theorem dL_endDay_4 : decode cL_endDay 4 = .ok (.ireturn, 1) := by decide +kernel
theorem dL_endDay_5 : decode cL_endDay 5 = .ok (.astore_n 1, 1) := by decide +kernel
theorem dL_endDay_6 : decode cL_endDay 6 = .ok (.ldc 44, 2) := by decide +kernel
theorem dL_endDay_8 : decode cL_endDay 8 = .ok (.ireturn, 1) := by decide +kernel
theorem dL_stateOf_0 : decode cL_stateOf 0 = .ok (.aload_n 0, 1) := by decide +kernel
theorem dL_stateOf_1 : decode cL_stateOf 1 = .ok (.iload_n 1, 1) := by decide +kernel
theorem dL_stateOf_2 : decode cL_stateOf 2 = .ok (.invokevirtual 73, 3) := by decide +kernel
theorem dL_stateOf_5 : decode cL_stateOf 5 = .ok (.ireturn, 1) := by decide +kernel
theorem dL_stateOf_6 : decode cL_stateOf 6 = .ok (.astore_n 2, 1) := by decide +kernel
theorem dL_stateOf_7 : decode cL_stateOf 7 = .ok (.ldc 18, 2) := by decide +kernel
theorem dL_stateOf_9 : decode cL_stateOf 9 = .ok (.ireturn, 1) := by decide +kernel
theorem dL_queueAt_0 : decode cL_queueAt 0 = .ok (.aload_n 0, 1) := by decide +kernel
theorem dL_queueAt_1 : decode cL_queueAt 1 = .ok (.iload_n 1, 1) := by decide +kernel
theorem dL_queueAt_2 : decode cL_queueAt 2 = .ok (.iload_n 2, 1) := by decide +kernel
theorem dL_queueAt_3 : decode cL_queueAt 3 = .ok (.iload_n 3, 1) := by decide +kernel
theorem dL_queueAt_4 : decode cL_queueAt 4 = .ok (.invokevirtual 76, 3) := by decide +kernel
theorem dL_queueAt_7 : decode cL_queueAt 7 = .ok (.ireturn, 1) := by decide +kernel
theorem dL_queueAt_8 : decode cL_queueAt 8 = .ok (.astore 4, 2) := by decide +kernel
theorem dL_queueAt_10 : decode cL_queueAt 10 = .ok (.ldc 18, 2) := by decide +kernel
theorem dL_queueAt_12 : decode cL_queueAt 12 = .ok (.ireturn, 1) := by decide +kernel
theorem dL_advice_0 : decode cL_advice 0 = .ok (.aload_n 0, 1) := by decide +kernel
theorem dL_advice_1 : decode cL_advice 1 = .ok (.iload_n 1, 1) := by decide +kernel
theorem dL_advice_2 : decode cL_advice 2 = .ok (.invokevirtual 79, 3) := by decide +kernel
theorem dL_advice_5 : decode cL_advice 5 = .ok (.ireturn, 1) := by decide +kernel
theorem dL_advice_6 : decode cL_advice 6 = .ok (.astore_n 2, 1) := by decide +kernel
theorem dL_advice_7 : decode cL_advice 7 = .ok (.ldc 18, 2) := by decide +kernel
theorem dL_advice_9 : decode cL_advice 9 = .ok (.ireturn, 1) := by decide +kernel
theorem dL_again_0 : decode cL_again 0 = .ok (.aload_n 0, 1) := by decide +kernel
theorem dL_again_1 : decode cL_again 1 = .ok (.iload_n 1, 1) := by decide +kernel
theorem dL_again_2 : decode cL_again 2 = .ok (.iload_n 2, 1) := by decide +kernel
theorem dL_again_3 : decode cL_again 3 = .ok (.invokevirtual 82, 3) := by decide +kernel
theorem dL_again_6 : decode cL_again 6 = .ok (.ireturn, 1) := by decide +kernel
theorem dL_again_7 : decode cL_again 7 = .ok (.astore_n 3, 1) := by decide +kernel
theorem dL_again_8 : decode cL_again 8 = .ok (.ldc 18, 2) := by decide +kernel
theorem dL_again_10 : decode cL_again 10 = .ok (.ireturn, 1) := by decide +kernel
theorem dL_again_11 : decode cL_again 11 = .ok (.astore_n 3, 1) := by decide +kernel
theorem dL_again_12 : decode cL_again 12 = .ok (.ldc 21, 2) := by decide +kernel
theorem dL_again_14 : decode cL_again 14 = .ok (.ireturn, 1) := by decide +kernel
theorem dL_fund_0 : decode cL_fund 0 = .ok (.aload_n 0, 1) := by decide +kernel
theorem dL_fund_1 : decode cL_fund 1 = .ok (.iload_n 1, 1) := by decide +kernel
theorem dL_fund_2 : decode cL_fund 2 = .ok (.iload_n 2, 1) := by decide +kernel
theorem dL_fund_3 : decode cL_fund 3 = .ok (.iload_n 3, 1) := by decide +kernel
theorem dL_fund_4 : decode cL_fund 4 = .ok (.invokevirtual 86, 3) := by decide +kernel
theorem dL_fund_7 : decode cL_fund 7 = .ok (.lreturn, 1) := by decide +kernel
theorem dL_fund_8 : decode cL_fund 8 = .ok (.astore 4, 2) := by decide +kernel
theorem dL_fund_10 : decode cL_fund 10 = .ok (.ldc2_w 90, 3) := by decide +kernel
theorem dL_fund_13 : decode cL_fund 13 = .ok (.lreturn, 1) := by decide +kernel
theorem dL_fund_14 : decode cL_fund 14 = .ok (.astore 4, 2) := by decide +kernel
theorem dL_fund_16 : decode cL_fund 16 = .ok (.ldc2_w 92, 3) := by decide +kernel
theorem dL_fund_19 : decode cL_fund 19 = .ok (.lreturn, 1) := by decide +kernel
theorem dL_account_0 : decode cL_account 0 = .ok (.aload_n 0, 1) := by decide +kernel
theorem dL_account_1 : decode cL_account 1 = .ok (.iload_n 1, 1) := by decide +kernel
theorem dL_account_2 : decode cL_account 2 = .ok (.iload_n 2, 1) := by decide +kernel
theorem dL_account_3 : decode cL_account 3 = .ok (.invokevirtual 94, 3) := by decide +kernel
theorem dL_account_6 : decode cL_account 6 = .ok (.lreturn, 1) := by decide +kernel
theorem dL_account_7 : decode cL_account 7 = .ok (.astore_n 3, 1) := by decide +kernel
theorem dL_account_8 : decode cL_account 8 = .ok (.ldc2_w 90, 3) := by decide +kernel
theorem dL_account_11 : decode cL_account 11 = .ok (.lreturn, 1) := by decide +kernel
theorem dL_accountAnew_0 : decode cL_accountAnew 0 = .ok (.aload_n 0, 1) := by decide +kernel
theorem dL_accountAnew_1 : decode cL_accountAnew 1 = .ok (.iload_n 1, 1) := by decide +kernel
theorem dL_accountAnew_2 : decode cL_accountAnew 2 = .ok (.iload_n 2, 1) := by decide +kernel
theorem dL_accountAnew_3 : decode cL_accountAnew 3 = .ok (.invokevirtual 98, 3) := by decide +kernel
theorem dL_accountAnew_6 : decode cL_accountAnew 6 = .ok (.lreturn, 1) := by decide +kernel
theorem dL_accountAnew_7 : decode cL_accountAnew 7 = .ok (.astore_n 3, 1) := by decide +kernel
theorem dL_accountAnew_8 : decode cL_accountAnew 8 = .ok (.ldc2_w 90, 3) := by decide +kernel
theorem dL_accountAnew_11 : decode cL_accountAnew 11 = .ok (.lreturn, 1) := by decide +kernel
theorem dL_paid_0 : decode cL_paid 0 = .ok (.aload_n 0, 1) := by decide +kernel
theorem dL_paid_1 : decode cL_paid 1 = .ok (.iload_n 1, 1) := by decide +kernel
theorem dL_paid_2 : decode cL_paid 2 = .ok (.iload_n 2, 1) := by decide +kernel
theorem dL_paid_3 : decode cL_paid 3 = .ok (.iload_n 3, 1) := by decide +kernel
theorem dL_paid_4 : decode cL_paid 4 = .ok (.invokevirtual 101, 3) := by decide +kernel
theorem dL_paid_7 : decode cL_paid 7 = .ok (.lreturn, 1) := by decide +kernel
theorem dL_paid_8 : decode cL_paid 8 = .ok (.astore 4, 2) := by decide +kernel
theorem dL_paid_10 : decode cL_paid 10 = .ok (.ldc2_w 90, 3) := by decide +kernel
theorem dL_paid_13 : decode cL_paid 13 = .ok (.lreturn, 1) := by decide +kernel
theorem dL_entryAt_0 : decode cL_entryAt 0 = .ok (.aload_n 0, 1) := by decide +kernel
theorem dL_entryAt_1 : decode cL_entryAt 1 = .ok (.iload_n 1, 1) := by decide +kernel
theorem dL_entryAt_2 : decode cL_entryAt 2 = .ok (.iload_n 2, 1) := by decide +kernel
theorem dL_entryAt_3 : decode cL_entryAt 3 = .ok (.invokevirtual 104, 3) := by decide +kernel
theorem dL_entryAt_6 : decode cL_entryAt 6 = .ok (.lreturn, 1) := by decide +kernel
theorem dL_entryAt_7 : decode cL_entryAt 7 = .ok (.astore_n 3, 1) := by decide +kernel
theorem dL_entryAt_8 : decode cL_entryAt 8 = .ok (.ldc2_w 90, 3) := by decide +kernel
theorem dL_entryAt_11 : decode cL_entryAt 11 = .ok (.lreturn, 1) := by decide +kernel
theorem dL_entryAt_12 : decode cL_entryAt 12 = .ok (.astore_n 3, 1) := by decide +kernel
theorem dL_entryAt_13 : decode cL_entryAt 13 = .ok (.ldc2_w 92, 3) := by decide +kernel
theorem dL_entryAt_16 : decode cL_entryAt 16 = .ok (.lreturn, 1) := by decide +kernel
theorem dL_sends_0 : decode cL_sends 0 = .ok (.iload 5, 2) := by decide +kernel
theorem dL_sends_2 : decode cL_sends 2 = .ok (.bipush 6, 2) := by decide +kernel
theorem dL_sends_4 : decode cL_sends 4 = .ok (.invokestatic 107, 3) := by decide +kernel
theorem dL_sends_7 : decode cL_sends 7 = .ok (.istore 7, 2) := by decide +kernel
theorem dL_sends_9 : decode cL_sends 9 = .ok (.iload 7, 2) := by decide +kernel
theorem dL_sends_11 : decode cL_sends 11 = .ok (.iconst 1, 1) := by decide +kernel
theorem dL_sends_12 : decode cL_sends 12 = .ok (.iadd, 1) := by decide +kernel
theorem dL_sends_13 : decode cL_sends 13 = .ok (.iload 5, 2) := by decide +kernel
theorem dL_sends_15 : decode cL_sends 15 = .ok (.iconst 3, 1) := by decide +kernel
theorem dL_sends_16 : decode cL_sends 16 = .ok (.ishr, 1) := by decide +kernel
theorem dL_sends_17 : decode cL_sends 17 = .ok (.iconst 5, 1) := by decide +kernel
theorem dL_sends_18 : decode cL_sends 18 = .ok (.invokestatic 107, 3) := by decide +kernel
theorem dL_sends_21 : decode cL_sends 21 = .ok (.iadd, 1) := by decide +kernel
theorem dL_sends_22 : decode cL_sends 22 = .ok (.bipush 6, 2) := by decide +kernel
theorem dL_sends_24 : decode cL_sends 24 = .ok (.irem, 1) := by decide +kernel
theorem dL_sends_25 : decode cL_sends 25 = .ok (.istore 8, 2) := by decide +kernel
theorem dL_sends_27 : decode cL_sends 27 = .ok (.iload 5, 2) := by decide +kernel
theorem dL_sends_29 : decode cL_sends 29 = .ok (.bipush 6, 2) := by decide +kernel
theorem dL_sends_31 : decode cL_sends 31 = .ok (.ishr, 1) := by decide +kernel
theorem dL_sends_32 : decode cL_sends 32 = .ok (.bipush 12, 2) := by decide +kernel
theorem dL_sends_34 : decode cL_sends 34 = .ok (.invokestatic 107, 3) := by decide +kernel
theorem dL_sends_37 : decode cL_sends 37 = .ok (.istore 9, 2) := by decide +kernel
theorem dL_sends_39 : decode cL_sends 39 = .ok (.iload 6, 2) := by decide +kernel
theorem dL_sends_41 : decode cL_sends 41 = .ok (.iconst 3, 1) := by decide +kernel
theorem dL_sends_42 : decode cL_sends 42 = .ok (.invokestatic 107, 3) := by decide +kernel
theorem dL_sends_45 : decode cL_sends 45 = .ok (.istore 10, 2) := by decide +kernel
theorem dL_sends_47 : decode cL_sends 47 = .ok (.iconst 1, 1) := by decide +kernel
theorem dL_sends_48 : decode cL_sends 48 = .ok (.iload 6, 2) := by decide +kernel
theorem dL_sends_50 : decode cL_sends 50 = .ok (.iconst 2, 1) := by decide +kernel
theorem dL_sends_51 : decode cL_sends 51 = .ok (.ishr, 1) := by decide +kernel
theorem dL_sends_52 : decode cL_sends 52 = .ok (.bipush 50, 2) := by decide +kernel
theorem dL_sends_54 : decode cL_sends 54 = .ok (.invokestatic 107, 3) := by decide +kernel
theorem dL_sends_57 : decode cL_sends 57 = .ok (.iadd, 1) := by decide +kernel
theorem dL_sends_58 : decode cL_sends 58 = .ok (.istore 11, 2) := by decide +kernel
theorem dL_sends_60 : decode cL_sends 60 = .ok (.iload 6, 2) := by decide +kernel
theorem dL_sends_62 : decode cL_sends 62 = .ok (.bipush 8, 2) := by decide +kernel
theorem dL_sends_64 : decode cL_sends 64 = .ok (.ishr, 1) := by decide +kernel
theorem dL_sends_65 : decode cL_sends 65 = .ok (.iconst 3, 1) := by decide +kernel
theorem dL_sends_66 : decode cL_sends 66 = .ok (.invokestatic 107, 3) := by decide +kernel
theorem dL_sends_69 : decode cL_sends 69 = .ok (.istore 12, 2) := by decide +kernel
theorem dL_sends_71 : decode cL_sends 71 = .ok (.iload 6, 2) := by decide +kernel
theorem dL_sends_73 : decode cL_sends 73 = .ok (.bipush 10, 2) := by decide +kernel
theorem dL_sends_75 : decode cL_sends 75 = .ok (.ishr, 1) := by decide +kernel
theorem dL_sends_76 : decode cL_sends 76 = .ok (.iconst 4, 1) := by decide +kernel
theorem dL_sends_77 : decode cL_sends 77 = .ok (.invokestatic 107, 3) := by decide +kernel
theorem dL_sends_80 : decode cL_sends 80 = .ok (.ifCond .le 7, 3) := by decide +kernel
theorem dL_sends_83 : decode cL_sends 83 = .ok (.iconst 1, 1) := by decide +kernel
theorem dL_sends_84 : decode cL_sends 84 = .ok (.goto 4, 3) := by decide +kernel
theorem dL_sends_87 : decode cL_sends 87 = .ok (.iconst 0, 1) := by decide +kernel
theorem dL_sends_88 : decode cL_sends 88 = .ok (.istore 13, 2) := by decide +kernel
theorem dL_sends_90 : decode cL_sends 90 = .ok (.iload 6, 2) := by decide +kernel
theorem dL_sends_92 : decode cL_sends 92 = .ok (.bipush 12, 2) := by decide +kernel
theorem dL_sends_94 : decode cL_sends 94 = .ok (.ishr, 1) := by decide +kernel
theorem dL_sends_95 : decode cL_sends 95 = .ok (.iconst 4, 1) := by decide +kernel
theorem dL_sends_96 : decode cL_sends 96 = .ok (.invokestatic 107, 3) := by decide +kernel
theorem dL_sends_99 : decode cL_sends 99 = .ok (.ifCond .ne 21, 3) := by decide +kernel
theorem dL_sends_102 : decode cL_sends 102 = .ok (.aload_n 1, 1) := by decide +kernel
theorem dL_sends_103 : decode cL_sends 103 = .ok (.iconst 1, 1) := by decide +kernel
theorem dL_sends_104 : decode cL_sends 104 = .ok (.iaload, 1) := by decide +kernel
theorem dL_sends_105 : decode cL_sends 105 = .ok (.iconst 1, 1) := by decide +kernel
theorem dL_sends_106 : decode cL_sends 106 = .ok (.iadd, 1) := by decide +kernel
theorem dL_sends_107 : decode cL_sends 107 = .ok (.iload 6, 2) := by decide +kernel
theorem dL_sends_109 : decode cL_sends 109 = .ok (.bipush 14, 2) := by decide +kernel
theorem dL_sends_111 : decode cL_sends 111 = .ok (.ishr, 1) := by decide +kernel
theorem dL_sends_112 : decode cL_sends 112 = .ok (.iconst 5, 1) := by decide +kernel
theorem dL_sends_113 : decode cL_sends 113 = .ok (.invokestatic 107, 3) := by decide +kernel
theorem dL_sends_116 : decode cL_sends 116 = .ok (.iadd, 1) := by decide +kernel
theorem dL_sends_117 : decode cL_sends 117 = .ok (.goto 4, 3) := by decide +kernel
theorem dL_sends_120 : decode cL_sends 120 = .ok (.iconst 0, 1) := by decide +kernel
theorem dL_sends_121 : decode cL_sends 121 = .ok (.istore 14, 2) := by decide +kernel
theorem dL_sends_123 : decode cL_sends 123 = .ok (.aload_n 0, 1) := by decide +kernel
theorem dL_sends_124 : decode cL_sends 124 = .ok (.invokevirtual 112, 3) := by decide +kernel
theorem dL_sends_127 : decode cL_sends 127 = .ok (.istore 15, 2) := by decide +kernel
theorem dL_sends_129 : decode cL_sends 129 = .ok (.aload_n 0, 1) := by decide +kernel
theorem dL_sends_130 : decode cL_sends 130 = .ok (.iload 7, 2) := by decide +kernel
theorem dL_sends_132 : decode cL_sends 132 = .ok (.iload 9, 2) := by decide +kernel
theorem dL_sends_134 : decode cL_sends 134 = .ok (.iload 8, 2) := by decide +kernel
theorem dL_sends_136 : decode cL_sends 136 = .ok (.iload 10, 2) := by decide +kernel
theorem dL_sends_138 : decode cL_sends 138 = .ok (.iload 11, 2) := by decide +kernel
theorem dL_sends_140 : decode cL_sends 140 = .ok (.iload 5, 2) := by decide +kernel
theorem dL_sends_142 : decode cL_sends 142 = .ok (.bipush 10, 2) := by decide +kernel
theorem dL_sends_144 : decode cL_sends 144 = .ok (.ishr, 1) := by decide +kernel
theorem dL_sends_145 : decode cL_sends 145 = .ok (.iconst 4, 1) := by decide +kernel
theorem dL_sends_146 : decode cL_sends 146 = .ok (.invokestatic 107, 3) := by decide +kernel
theorem dL_sends_149 : decode cL_sends 149 = .ok (.iload 12, 2) := by decide +kernel
theorem dL_sends_151 : decode cL_sends 151 = .ok (.iload 13, 2) := by decide +kernel
theorem dL_sends_153 : decode cL_sends 153 = .ok (.iload 14, 2) := by decide +kernel
theorem dL_sends_155 : decode cL_sends 155 = .ok (.iload 6, 2) := by decide +kernel
theorem dL_sends_157 : decode cL_sends 157 = .ok (.bipush 17, 2) := by decide +kernel
theorem dL_sends_159 : decode cL_sends 159 = .ok (.ishr, 1) := by decide +kernel
theorem dL_sends_160 : decode cL_sends 160 = .ok (.iconst 2, 1) := by decide +kernel
theorem dL_sends_161 : decode cL_sends 161 = .ok (.invokestatic 107, 3) := by decide +kernel
theorem dL_sends_164 : decode cL_sends 164 = .ok (.ifCond .ne 7, 3) := by decide +kernel
theorem dL_sends_167 : decode cL_sends 167 = .ok (.iconst 1, 1) := by decide +kernel
theorem dL_sends_168 : decode cL_sends 168 = .ok (.goto 4, 3) := by decide +kernel
theorem dL_sends_171 : decode cL_sends 171 = .ok (.iconst 0, 1) := by decide +kernel
theorem dL_sends_172 : decode cL_sends 172 = .ok (.invokestatic 115, 3) := by decide +kernel
theorem dL_sends_175 : decode cL_sends 175 = .ok (.istore 16, 2) := by decide +kernel
theorem dL_sends_177 : decode cL_sends 177 = .ok (.iload 16, 2) := by decide +kernel
theorem dL_sends_179 : decode cL_sends 179 = .ok (.aload_n 1, 1) := by decide +kernel
theorem dL_sends_180 : decode cL_sends 180 = .ok (.iconst 0, 1) := by decide +kernel
theorem dL_sends_181 : decode cL_sends 181 = .ok (.iaload, 1) := by decide +kernel
theorem dL_sends_182 : decode cL_sends 182 = .ok (.if_icmp .ne 82, 3) := by decide +kernel
theorem dL_sends_185 : decode cL_sends 185 = .ok (.aload_n 2, 1) := by decide +kernel
theorem dL_sends_186 : decode cL_sends 186 = .ok (.aload_n 1, 1) := by decide +kernel
theorem dL_sends_187 : decode cL_sends 187 = .ok (.iconst 0, 1) := by decide +kernel
theorem dL_sends_188 : decode cL_sends 188 = .ok (.iaload, 1) := by decide +kernel
theorem dL_sends_189 : decode cL_sends 189 = .ok (.bipush 8, 2) := by decide +kernel
theorem dL_sends_191 : decode cL_sends 191 = .ok (.iload 7, 2) := by decide +kernel
theorem dL_sends_193 : decode cL_sends 193 = .ok (.imul, 1) := by decide +kernel
theorem dL_sends_194 : decode cL_sends 194 = .ok (.iload 8, 2) := by decide +kernel
theorem dL_sends_196 : decode cL_sends 196 = .ok (.iadd, 1) := by decide +kernel
theorem dL_sends_197 : decode cL_sends 197 = .ok (.iastore, 1) := by decide +kernel
theorem dL_sends_198 : decode cL_sends 198 = .ok (.aload_n 3, 1) := by decide +kernel
theorem dL_sends_199 : decode cL_sends 199 = .ok (.aload_n 1, 1) := by decide +kernel
theorem dL_sends_200 : decode cL_sends 200 = .ok (.iconst 0, 1) := by decide +kernel
theorem dL_sends_201 : decode cL_sends 201 = .ok (.iaload, 1) := by decide +kernel
theorem dL_sends_202 : decode cL_sends 202 = .ok (.bipush 64, 2) := by decide +kernel
theorem dL_sends_204 : decode cL_sends 204 = .ok (.iload 10, 2) := by decide +kernel
theorem dL_sends_206 : decode cL_sends 206 = .ok (.imul, 1) := by decide +kernel
theorem dL_sends_207 : decode cL_sends 207 = .ok (.iload 11, 2) := by decide +kernel
theorem dL_sends_209 : decode cL_sends 209 = .ok (.iadd, 1) := by decide +kernel
theorem dL_sends_210 : decode cL_sends 210 = .ok (.iastore, 1) := by decide +kernel
theorem dL_sends_211 : decode cL_sends 211 = .ok (.aload 4, 2) := by decide +kernel
theorem dL_sends_213 : decode cL_sends 213 = .ok (.aload_n 1, 1) := by decide +kernel
theorem dL_sends_214 : decode cL_sends 214 = .ok (.iconst 0, 1) := by decide +kernel
theorem dL_sends_215 : decode cL_sends 215 = .ok (.iaload, 1) := by decide +kernel
theorem dL_sends_216 : decode cL_sends 216 = .ok (.iconst 2, 1) := by decide +kernel
theorem dL_sends_217 : decode cL_sends 217 = .ok (.iload 12, 2) := by decide +kernel
theorem dL_sends_219 : decode cL_sends 219 = .ok (.imul, 1) := by decide +kernel
theorem dL_sends_220 : decode cL_sends 220 = .ok (.iload 13, 2) := by decide +kernel
theorem dL_sends_222 : decode cL_sends 222 = .ok (.ifCond .eq 7, 3) := by decide +kernel
theorem dL_sends_225 : decode cL_sends 225 = .ok (.iconst 1, 1) := by decide +kernel
theorem dL_sends_226 : decode cL_sends 226 = .ok (.goto 4, 3) := by decide +kernel
theorem dL_sends_229 : decode cL_sends 229 = .ok (.iconst 0, 1) := by decide +kernel
theorem dL_sends_230 : decode cL_sends 230 = .ok (.iadd, 1) := by decide +kernel
theorem dL_sends_231 : decode cL_sends 231 = .ok (.iastore, 1) := by decide +kernel
theorem dL_sends_232 : decode cL_sends 232 = .ok (.aload_n 1, 1) := by decide +kernel
theorem dL_sends_233 : decode cL_sends 233 = .ok (.iconst 0, 1) := by decide +kernel
theorem dL_sends_234 : decode cL_sends 234 = .ok (.dup2, 1) := by decide +kernel
theorem dL_sends_235 : decode cL_sends 235 = .ok (.iaload, 1) := by decide +kernel
theorem dL_sends_236 : decode cL_sends 236 = .ok (.iconst 1, 1) := by decide +kernel
theorem dL_sends_237 : decode cL_sends 237 = .ok (.iadd, 1) := by decide +kernel
theorem dL_sends_238 : decode cL_sends 238 = .ok (.iastore, 1) := by decide +kernel
theorem dL_sends_239 : decode cL_sends 239 = .ok (.aload_n 0, 1) := by decide +kernel
theorem dL_sends_240 : decode cL_sends 240 = .ok (.invokevirtual 118, 3) := by decide +kernel
theorem dL_sends_243 : decode cL_sends 243 = .ok (.aload_n 1, 1) := by decide +kernel
theorem dL_sends_244 : decode cL_sends 244 = .ok (.iconst 0, 1) := by decide +kernel
theorem dL_sends_245 : decode cL_sends 245 = .ok (.iaload, 1) := by decide +kernel
theorem dL_sends_246 : decode cL_sends 246 = .ok (.if_icmp .ne 16, 3) := by decide +kernel
theorem dL_sends_249 : decode cL_sends 249 = .ok (.aload_n 0, 1) := by decide +kernel
theorem dL_sends_250 : decode cL_sends 250 = .ok (.invokevirtual 112, 3) := by decide +kernel
theorem dL_sends_253 : decode cL_sends 253 = .ok (.iload 15, 2) := by decide +kernel
theorem dL_sends_255 : decode cL_sends 255 = .ok (.if_icmp .ne 7, 3) := by decide +kernel
theorem dL_sends_258 : decode cL_sends 258 = .ok (.iconst 1, 1) := by decide +kernel
theorem dL_sends_259 : decode cL_sends 259 = .ok (.goto 4, 3) := by decide +kernel
theorem dL_sends_262 : decode cL_sends 262 = .ok (.iconst 0, 1) := by decide +kernel
theorem dL_sends_263 : decode cL_sends 263 = .ok (.ireturn, 1) := by decide +kernel
theorem dL_sends_264 : decode cL_sends 264 = .ok (.iload 16, 2) := by decide +kernel
theorem dL_sends_266 : decode cL_sends 266 = .ok (.ldc 44, 2) := by decide +kernel
theorem dL_sends_268 : decode cL_sends 268 = .ok (.if_icmp .ne 20, 3) := by decide +kernel
theorem dL_sends_271 : decode cL_sends 271 = .ok (.aload_n 0, 1) := by decide +kernel
theorem dL_sends_272 : decode cL_sends 272 = .ok (.invokevirtual 112, 3) := by decide +kernel
theorem dL_sends_275 : decode cL_sends 275 = .ok (.iload 15, 2) := by decide +kernel
theorem dL_sends_277 : decode cL_sends 277 = .ok (.if_icmp .ne 7, 3) := by decide +kernel
theorem dL_sends_280 : decode cL_sends 280 = .ok (.iconst 1, 1) := by decide +kernel
theorem dL_sends_281 : decode cL_sends 281 = .ok (.goto 66, 3) := by decide +kernel
theorem dL_sends_284 : decode cL_sends 284 = .ok (.iconst 0, 1) := by decide +kernel
theorem dL_sends_285 : decode cL_sends 285 = .ok (.goto 62, 3) := by decide +kernel
theorem dL_sends_288 : decode cL_sends 288 = .ok (.iload 16, 2) := by decide +kernel
theorem dL_sends_290 : decode cL_sends 290 = .ok (.ifCond .lt 56, 3) := by decide +kernel
theorem dL_sends_293 : decode cL_sends 293 = .ok (.iload 16, 2) := by decide +kernel
theorem dL_sends_295 : decode cL_sends 295 = .ok (.aload_n 1, 1) := by decide +kernel
theorem dL_sends_296 : decode cL_sends 296 = .ok (.iconst 0, 1) := by decide +kernel
theorem dL_sends_297 : decode cL_sends 297 = .ok (.iaload, 1) := by decide +kernel
theorem dL_sends_298 : decode cL_sends 298 = .ok (.if_icmp .ge 48, 3) := by decide +kernel
theorem dL_sends_301 : decode cL_sends 301 = .ok (.aload_n 2, 1) := by decide +kernel
theorem dL_sends_302 : decode cL_sends 302 = .ok (.iload 16, 2) := by decide +kernel
theorem dL_sends_304 : decode cL_sends 304 = .ok (.iaload, 1) := by decide +kernel
theorem dL_sends_305 : decode cL_sends 305 = .ok (.bipush 8, 2) := by decide +kernel
theorem dL_sends_307 : decode cL_sends 307 = .ok (.iload 7, 2) := by decide +kernel
theorem dL_sends_309 : decode cL_sends 309 = .ok (.imul, 1) := by decide +kernel
theorem dL_sends_310 : decode cL_sends 310 = .ok (.iload 8, 2) := by decide +kernel
theorem dL_sends_312 : decode cL_sends 312 = .ok (.iadd, 1) := by decide +kernel
theorem dL_sends_313 : decode cL_sends 313 = .ok (.if_icmp .ne 33, 3) := by decide +kernel
theorem dL_sends_316 : decode cL_sends 316 = .ok (.aload_n 3, 1) := by decide +kernel
theorem dL_sends_317 : decode cL_sends 317 = .ok (.iload 16, 2) := by decide +kernel
theorem dL_sends_319 : decode cL_sends 319 = .ok (.iaload, 1) := by decide +kernel
theorem dL_sends_320 : decode cL_sends 320 = .ok (.bipush 64, 2) := by decide +kernel
theorem dL_sends_322 : decode cL_sends 322 = .ok (.iload 10, 2) := by decide +kernel
theorem dL_sends_324 : decode cL_sends 324 = .ok (.imul, 1) := by decide +kernel
theorem dL_sends_325 : decode cL_sends 325 = .ok (.iload 11, 2) := by decide +kernel
theorem dL_sends_327 : decode cL_sends 327 = .ok (.iadd, 1) := by decide +kernel
theorem dL_sends_328 : decode cL_sends 328 = .ok (.if_icmp .ne 18, 3) := by decide +kernel
theorem dL_sends_331 : decode cL_sends 331 = .ok (.aload_n 0, 1) := by decide +kernel
theorem dL_sends_332 : decode cL_sends 332 = .ok (.invokevirtual 112, 3) := by decide +kernel
theorem dL_sends_335 : decode cL_sends 335 = .ok (.iload 15, 2) := by decide +kernel
theorem dL_sends_337 : decode cL_sends 337 = .ok (.iconst 1, 1) := by decide +kernel
theorem dL_sends_338 : decode cL_sends 338 = .ok (.iadd, 1) := by decide +kernel
theorem dL_sends_339 : decode cL_sends 339 = .ok (.if_icmp .ne 7, 3) := by decide +kernel
theorem dL_sends_342 : decode cL_sends 342 = .ok (.iconst 1, 1) := by decide +kernel
theorem dL_sends_343 : decode cL_sends 343 = .ok (.goto 4, 3) := by decide +kernel
theorem dL_sends_346 : decode cL_sends 346 = .ok (.iconst 0, 1) := by decide +kernel
theorem dL_sends_347 : decode cL_sends 347 = .ok (.ireturn, 1) := by decide +kernel
theorem dL_changes_0 : decode cL_changes 0 = .ok (.iload_n 3, 1) := by decide +kernel
theorem dL_changes_1 : decode cL_changes 1 = .ok (.bipush 12, 2) := by decide +kernel
theorem dL_changes_3 : decode cL_changes 3 = .ok (.invokestatic 107, 3) := by decide +kernel
theorem dL_changes_6 : decode cL_changes 6 = .ok (.istore 5, 2) := by decide +kernel
theorem dL_changes_8 : decode cL_changes 8 = .ok (.iload_n 3, 1) := by decide +kernel
theorem dL_changes_9 : decode cL_changes 9 = .ok (.iconst 4, 1) := by decide +kernel
theorem dL_changes_10 : decode cL_changes 10 = .ok (.ishr, 1) := by decide +kernel
theorem dL_changes_11 : decode cL_changes 11 = .ok (.bipush 6, 2) := by decide +kernel
theorem dL_changes_13 : decode cL_changes 13 = .ok (.invokestatic 107, 3) := by decide +kernel
theorem dL_changes_16 : decode cL_changes 16 = .ok (.istore 6, 2) := by decide +kernel
theorem dL_changes_18 : decode cL_changes 18 = .ok (.iload_n 3, 1) := by decide +kernel
theorem dL_changes_19 : decode cL_changes 19 = .ok (.bipush 7, 2) := by decide +kernel
theorem dL_changes_21 : decode cL_changes 21 = .ok (.ishr, 1) := by decide +kernel
theorem dL_changes_22 : decode cL_changes 22 = .ok (.iconst 3, 1) := by decide +kernel
theorem dL_changes_23 : decode cL_changes 23 = .ok (.invokestatic 107, 3) := by decide +kernel
theorem dL_changes_26 : decode cL_changes 26 = .ok (.istore 7, 2) := by decide +kernel
theorem dL_changes_28 : decode cL_changes 28 = .ok (.aload_n 1, 1) := by decide +kernel
theorem dL_changes_29 : decode cL_changes 29 = .ok (.iconst 0, 1) := by decide +kernel
theorem dL_changes_30 : decode cL_changes 30 = .ok (.iaload, 1) := by decide +kernel
theorem dL_changes_31 : decode cL_changes 31 = .ok (.ifCond .ne 7, 3) := by decide +kernel
theorem dL_changes_34 : decode cL_changes 34 = .ok (.iconst 0, 1) := by decide +kernel
theorem dL_changes_35 : decode cL_changes 35 = .ok (.goto 11, 3) := by decide +kernel
theorem dL_changes_38 : decode cL_changes 38 = .ok (.iload 4, 2) := by decide +kernel
theorem dL_changes_40 : decode cL_changes 40 = .ok (.aload_n 1, 1) := by decide +kernel
theorem dL_changes_41 : decode cL_changes 41 = .ok (.iconst 0, 1) := by decide +kernel
theorem dL_changes_42 : decode cL_changes 42 = .ok (.iaload, 1) := by decide +kernel
theorem dL_changes_43 : decode cL_changes 43 = .ok (.invokestatic 107, 3) := by decide +kernel
theorem dL_changes_46 : decode cL_changes 46 = .ok (.istore 8, 2) := by decide +kernel
theorem dL_changes_48 : decode cL_changes 48 = .ok (.iload 5, 2) := by decide +kernel
theorem dL_changes_50 : decode cL_changes 50 = .ok (.iconst 2, 1) := by decide +kernel
theorem dL_changes_51 : decode cL_changes 51 = .ok (.if_icmp .ge 52, 3) := by decide +kernel
theorem dL_changes_54 : decode cL_changes 54 = .ok (.iconst 1, 1) := by decide +kernel
theorem dL_changes_55 : decode cL_changes 55 = .ok (.iload 4, 2) := by decide +kernel
theorem dL_changes_57 : decode cL_changes 57 = .ok (.bipush 60, 2) := by decide +kernel
theorem dL_changes_59 : decode cL_changes 59 = .ok (.invokestatic 107, 3) := by decide +kernel
theorem dL_changes_62 : decode cL_changes 62 = .ok (.iadd, 1) := by decide +kernel
theorem dL_changes_63 : decode cL_changes 63 = .ok (.istore 9, 2) := by decide +kernel
theorem dL_changes_65 : decode cL_changes 65 = .ok (.aload_n 2, 1) := by decide +kernel
theorem dL_changes_66 : decode cL_changes 66 = .ok (.iload 7, 2) := by decide +kernel
theorem dL_changes_68 : decode cL_changes 68 = .ok (.dup2, 1) := by decide +kernel
theorem dL_changes_69 : decode cL_changes 69 = .ok (.laload, 1) := by decide +kernel
theorem dL_changes_70 : decode cL_changes 70 = .ok (.iload 9, 2) := by decide +kernel
theorem dL_changes_72 : decode cL_changes 72 = .ok (.i2l, 1) := by decide +kernel
theorem dL_changes_73 : decode cL_changes 73 = .ok (.ladd, 1) := by decide +kernel
theorem dL_changes_74 : decode cL_changes 74 = .ok (.lastore, 1) := by decide +kernel
theorem dL_changes_75 : decode cL_changes 75 = .ok (.aload_n 0, 1) := by decide +kernel
theorem dL_changes_76 : decode cL_changes 76 = .ok (.iload 6, 2) := by decide +kernel
theorem dL_changes_78 : decode cL_changes 78 = .ok (.iload 7, 2) := by decide +kernel
theorem dL_changes_80 : decode cL_changes 80 = .ok (.iload 9, 2) := by decide +kernel
theorem dL_changes_82 : decode cL_changes 82 = .ok (.invokestatic 121, 3) := by decide +kernel
theorem dL_changes_85 : decode cL_changes 85 = .ok (.aload_n 0, 1) := by decide +kernel
theorem dL_changes_86 : decode cL_changes 86 = .ok (.iload 6, 2) := by decide +kernel
theorem dL_changes_88 : decode cL_changes 88 = .ok (.iload 7, 2) := by decide +kernel
theorem dL_changes_90 : decode cL_changes 90 = .ok (.invokestatic 124, 3) := by decide +kernel
theorem dL_changes_93 : decode cL_changes 93 = .ok (.lcmp, 1) := by decide +kernel
theorem dL_changes_94 : decode cL_changes 94 = .ok (.ifCond .ne 7, 3) := by decide +kernel
theorem dL_changes_97 : decode cL_changes 97 = .ok (.iconst 1, 1) := by decide +kernel
theorem dL_changes_98 : decode cL_changes 98 = .ok (.goto 4, 3) := by decide +kernel
theorem dL_changes_101 : decode cL_changes 101 = .ok (.iconst 0, 1) := by decide +kernel
theorem dL_changes_102 : decode cL_changes 102 = .ok (.ireturn, 1) := by decide +kernel
theorem dL_changes_103 : decode cL_changes 103 = .ok (.iload 5, 2) := by decide +kernel
theorem dL_changes_105 : decode cL_changes 105 = .ok (.iconst 2, 1) := by decide +kernel
theorem dL_changes_106 : decode cL_changes 106 = .ok (.if_icmp .ne 38, 3) := by decide +kernel
theorem dL_changes_109 : decode cL_changes 109 = .ok (.aload_n 0, 1) := by decide +kernel
theorem dL_changes_110 : decode cL_changes 110 = .ok (.iload 6, 2) := by decide +kernel
theorem dL_changes_112 : decode cL_changes 112 = .ok (.iload 7, 2) := by decide +kernel
theorem dL_changes_114 : decode cL_changes 114 = .ok (.iload 4, 2) := by decide +kernel
theorem dL_changes_116 : decode cL_changes 116 = .ok (.bipush 60, 2) := by decide +kernel
theorem dL_changes_118 : decode cL_changes 118 = .ok (.invokestatic 107, 3) := by decide +kernel
theorem dL_changes_121 : decode cL_changes 121 = .ok (.invokestatic 127, 3) := by decide +kernel
theorem dL_changes_124 : decode cL_changes 124 = .ok (.istore 9, 2) := by decide +kernel
theorem dL_changes_126 : decode cL_changes 126 = .ok (.iload 9, 2) := by decide +kernel
theorem dL_changes_128 : decode cL_changes 128 = .ok (.ifCond .lt 14, 3) := by decide +kernel
theorem dL_changes_131 : decode cL_changes 131 = .ok (.iload 9, 2) := by decide +kernel
theorem dL_changes_133 : decode cL_changes 133 = .ok (.bipush 60, 2) := by decide +kernel
theorem dL_changes_135 : decode cL_changes 135 = .ok (.if_icmp .ge 7, 3) := by decide +kernel
theorem dL_changes_138 : decode cL_changes 138 = .ok (.iconst 1, 1) := by decide +kernel
theorem dL_changes_139 : decode cL_changes 139 = .ok (.goto 4, 3) := by decide +kernel
theorem dL_changes_142 : decode cL_changes 142 = .ok (.iconst 0, 1) := by decide +kernel
theorem dL_changes_143 : decode cL_changes 143 = .ok (.ireturn, 1) := by decide +kernel
theorem dL_changes_144 : decode cL_changes 144 = .ok (.iload 5, 2) := by decide +kernel
theorem dL_changes_146 : decode cL_changes 146 = .ok (.iconst 3, 1) := by decide +kernel
theorem dL_changes_147 : decode cL_changes 147 = .ok (.if_icmp .ne 57, 3) := by decide +kernel
theorem dL_changes_150 : decode cL_changes 150 = .ok (.aload_n 0, 1) := by decide +kernel
theorem dL_changes_151 : decode cL_changes 151 = .ok (.iload 6, 2) := by decide +kernel
theorem dL_changes_153 : decode cL_changes 153 = .ok (.iload 6, 2) := by decide +kernel
theorem dL_changes_155 : decode cL_changes 155 = .ok (.iconst 1, 1) := by decide +kernel
theorem dL_changes_156 : decode cL_changes 156 = .ok (.iadd, 1) := by decide +kernel
theorem dL_changes_157 : decode cL_changes 157 = .ok (.iload 4, 2) := by decide +kernel
theorem dL_changes_159 : decode cL_changes 159 = .ok (.iconst 5, 1) := by decide +kernel
theorem dL_changes_160 : decode cL_changes 160 = .ok (.invokestatic 107, 3) := by decide +kernel
theorem dL_changes_163 : decode cL_changes 163 = .ok (.iadd, 1) := by decide +kernel
theorem dL_changes_164 : decode cL_changes 164 = .ok (.bipush 6, 2) := by decide +kernel
theorem dL_changes_166 : decode cL_changes 166 = .ok (.irem, 1) := by decide +kernel
theorem dL_changes_167 : decode cL_changes 167 = .ok (.iload 7, 2) := by decide +kernel
theorem dL_changes_169 : decode cL_changes 169 = .ok (.iload 4, 2) := by decide +kernel
theorem dL_changes_171 : decode cL_changes 171 = .ok (.iconst 3, 1) := by decide +kernel
theorem dL_changes_172 : decode cL_changes 172 = .ok (.ishr, 1) := by decide +kernel
theorem dL_changes_173 : decode cL_changes 173 = .ok (.bipush 80, 2) := by decide +kernel
theorem dL_changes_175 : decode cL_changes 175 = .ok (.invokestatic 107, 3) := by decide +kernel
theorem dL_changes_178 : decode cL_changes 178 = .ok (.iconst 1, 1) := by decide +kernel
theorem dL_changes_179 : decode cL_changes 179 = .ok (.isub, 1) := by decide +kernel
theorem dL_changes_180 : decode cL_changes 180 = .ok (.invokestatic 130, 3) := by decide +kernel
theorem dL_changes_183 : decode cL_changes 183 = .ok (.istore 9, 2) := by decide +kernel
theorem dL_changes_185 : decode cL_changes 185 = .ok (.iload 9, 2) := by decide +kernel
theorem dL_changes_187 : decode cL_changes 187 = .ok (.iconst (-1), 1) := by decide +kernel
theorem dL_changes_188 : decode cL_changes 188 = .ok (.if_icmp .lt 14, 3) := by decide +kernel
theorem dL_changes_191 : decode cL_changes 191 = .ok (.iload 9, 2) := by decide +kernel
theorem dL_changes_193 : decode cL_changes 193 = .ok (.bipush 79, 2) := by decide +kernel
theorem dL_changes_195 : decode cL_changes 195 = .ok (.if_icmp .ge 7, 3) := by decide +kernel
theorem dL_changes_198 : decode cL_changes 198 = .ok (.iconst 1, 1) := by decide +kernel
theorem dL_changes_199 : decode cL_changes 199 = .ok (.goto 4, 3) := by decide +kernel
theorem dL_changes_202 : decode cL_changes 202 = .ok (.iconst 0, 1) := by decide +kernel
theorem dL_changes_203 : decode cL_changes 203 = .ok (.ireturn, 1) := by decide +kernel
theorem dL_changes_204 : decode cL_changes 204 = .ok (.iload 5, 2) := by decide +kernel
theorem dL_changes_206 : decode cL_changes 206 = .ok (.iconst 4, 1) := by decide +kernel
theorem dL_changes_207 : decode cL_changes 207 = .ok (.if_icmp .ne 42, 3) := by decide +kernel
theorem dL_changes_210 : decode cL_changes 210 = .ok (.aload_n 0, 1) := by decide +kernel
theorem dL_changes_211 : decode cL_changes 211 = .ok (.iload 6, 2) := by decide +kernel
theorem dL_changes_213 : decode cL_changes 213 = .ok (.iload 4, 2) := by decide +kernel
theorem dL_changes_215 : decode cL_changes 215 = .ok (.iconst 3, 1) := by decide +kernel
theorem dL_changes_216 : decode cL_changes 216 = .ok (.invokestatic 107, 3) := by decide +kernel
theorem dL_changes_219 : decode cL_changes 219 = .ok (.ifCond .ne 7, 3) := by decide +kernel
theorem dL_changes_222 : decode cL_changes 222 = .ok (.iconst 1, 1) := by decide +kernel
theorem dL_changes_223 : decode cL_changes 223 = .ok (.goto 4, 3) := by decide +kernel
theorem dL_changes_226 : decode cL_changes 226 = .ok (.iconst 0, 1) := by decide +kernel
theorem dL_changes_227 : decode cL_changes 227 = .ok (.invokestatic 133, 3) := by decide +kernel
theorem dL_changes_230 : decode cL_changes 230 = .ok (.istore 9, 2) := by decide +kernel
theorem dL_changes_232 : decode cL_changes 232 = .ok (.iload 9, 2) := by decide +kernel
theorem dL_changes_234 : decode cL_changes 234 = .ok (.ifCond .eq 9, 3) := by decide +kernel
theorem dL_changes_237 : decode cL_changes 237 = .ok (.iload 9, 2) := by decide +kernel
theorem dL_changes_239 : decode cL_changes 239 = .ok (.iconst 1, 1) := by decide +kernel
theorem dL_changes_240 : decode cL_changes 240 = .ok (.if_icmp .ne 7, 3) := by decide +kernel
theorem dL_changes_243 : decode cL_changes 243 = .ok (.iconst 1, 1) := by decide +kernel
theorem dL_changes_244 : decode cL_changes 244 = .ok (.goto 4, 3) := by decide +kernel
theorem dL_changes_247 : decode cL_changes 247 = .ok (.iconst 0, 1) := by decide +kernel
theorem dL_changes_248 : decode cL_changes 248 = .ok (.ireturn, 1) := by decide +kernel
theorem dL_changes_249 : decode cL_changes 249 = .ok (.iload 5, 2) := by decide +kernel
theorem dL_changes_251 : decode cL_changes 251 = .ok (.iconst 5, 1) := by decide +kernel
theorem dL_changes_252 : decode cL_changes 252 = .ok (.if_icmp .ne 80, 3) := by decide +kernel
theorem dL_changes_255 : decode cL_changes 255 = .ok (.aload_n 1, 1) := by decide +kernel
theorem dL_changes_256 : decode cL_changes 256 = .ok (.iconst 1, 1) := by decide +kernel
theorem dL_changes_257 : decode cL_changes 257 = .ok (.iaload, 1) := by decide +kernel
theorem dL_changes_258 : decode cL_changes 258 = .ok (.iload 4, 2) := by decide +kernel
theorem dL_changes_260 : decode cL_changes 260 = .ok (.bipush 6, 2) := by decide +kernel
theorem dL_changes_262 : decode cL_changes 262 = .ok (.invokestatic 107, 3) := by decide +kernel
theorem dL_changes_265 : decode cL_changes 265 = .ok (.iadd, 1) := by decide +kernel
theorem dL_changes_266 : decode cL_changes 266 = .ok (.istore 9, 2) := by decide +kernel
theorem dL_changes_268 : decode cL_changes 268 = .ok (.iload 4, 2) := by decide +kernel
theorem dL_changes_270 : decode cL_changes 270 = .ok (.iconst 3, 1) := by decide +kernel
theorem dL_changes_271 : decode cL_changes 271 = .ok (.ishr, 1) := by decide +kernel
theorem dL_changes_272 : decode cL_changes 272 = .ok (.iconst 2, 1) := by decide +kernel
theorem dL_changes_273 : decode cL_changes 273 = .ok (.invokestatic 107, 3) := by decide +kernel
theorem dL_changes_276 : decode cL_changes 276 = .ok (.ifCond .ne 7, 3) := by decide +kernel
theorem dL_changes_279 : decode cL_changes 279 = .ok (.iconst 1, 1) := by decide +kernel
theorem dL_changes_280 : decode cL_changes 280 = .ok (.goto 4, 3) := by decide +kernel
theorem dL_changes_283 : decode cL_changes 283 = .ok (.iconst 0, 1) := by decide +kernel
theorem dL_changes_284 : decode cL_changes 284 = .ok (.istore 10, 2) := by decide +kernel
theorem dL_changes_286 : decode cL_changes 286 = .ok (.iload 9, 2) := by decide +kernel
theorem dL_changes_288 : decode cL_changes 288 = .ok (.sipush 999, 3) := by decide +kernel
theorem dL_changes_291 : decode cL_changes 291 = .ok (.if_icmp .gt 35, 3) := by decide +kernel
theorem dL_changes_294 : decode cL_changes 294 = .ok (.aload_n 0, 1) := by decide +kernel
theorem dL_changes_295 : decode cL_changes 295 = .ok (.iload 7, 2) := by decide +kernel
theorem dL_changes_297 : decode cL_changes 297 = .ok (.iload 9, 2) := by decide +kernel
theorem dL_changes_299 : decode cL_changes 299 = .ok (.iload 10, 2) := by decide +kernel
theorem dL_changes_301 : decode cL_changes 301 = .ok (.invokestatic 136, 3) := by decide +kernel
theorem dL_changes_304 : decode cL_changes 304 = .ok (.iload 10, 2) := by decide +kernel
theorem dL_changes_306 : decode cL_changes 306 = .ok (.ifCond .ne 12, 3) := by decide +kernel
theorem dL_changes_309 : decode cL_changes 309 = .ok (.iload 9, 2) := by decide +kernel
theorem dL_changes_311 : decode cL_changes 311 = .ok (.bipush 7, 2) := by decide +kernel
theorem dL_changes_313 : decode cL_changes 313 = .ok (.irem, 1) := by decide +kernel
theorem dL_changes_314 : decode cL_changes 314 = .ok (.iconst 4, 1) := by decide +kernel
theorem dL_changes_315 : decode cL_changes 315 = .ok (.if_icmp .le 7, 3) := by decide +kernel
theorem dL_changes_318 : decode cL_changes 318 = .ok (.iconst 0, 1) := by decide +kernel
theorem dL_changes_319 : decode cL_changes 319 = .ok (.goto 4, 3) := by decide +kernel
theorem dL_changes_322 : decode cL_changes 322 = .ok (.iconst 1, 1) := by decide +kernel
theorem dL_changes_323 : decode cL_changes 323 = .ok (.if_icmp .ne 7, 3) := by decide +kernel
theorem dL_changes_326 : decode cL_changes 326 = .ok (.iconst 1, 1) := by decide +kernel
theorem dL_changes_327 : decode cL_changes 327 = .ok (.goto 4, 3) := by decide +kernel
theorem dL_changes_330 : decode cL_changes 330 = .ok (.iconst 0, 1) := by decide +kernel
theorem dL_changes_331 : decode cL_changes 331 = .ok (.ireturn, 1) := by decide +kernel
theorem dL_changes_332 : decode cL_changes 332 = .ok (.iload 5, 2) := by decide +kernel
theorem dL_changes_334 : decode cL_changes 334 = .ok (.bipush 6, 2) := by decide +kernel
theorem dL_changes_336 : decode cL_changes 336 = .ok (.if_icmp .ne 50, 3) := by decide +kernel
theorem dL_changes_339 : decode cL_changes 339 = .ok (.aload_n 0, 1) := by decide +kernel
theorem dL_changes_340 : decode cL_changes 340 = .ok (.iload 4, 2) := by decide +kernel
theorem dL_changes_342 : decode cL_changes 342 = .ok (.iconst 4, 1) := by decide +kernel
theorem dL_changes_343 : decode cL_changes 343 = .ok (.invokestatic 107, 3) := by decide +kernel
theorem dL_changes_346 : decode cL_changes 346 = .ok (.iload 4, 2) := by decide +kernel
theorem dL_changes_348 : decode cL_changes 348 = .ok (.iconst 2, 1) := by decide +kernel
theorem dL_changes_349 : decode cL_changes 349 = .ok (.ishr, 1) := by decide +kernel
theorem dL_changes_350 : decode cL_changes 350 = .ok (.iconst 2, 1) := by decide +kernel
theorem dL_changes_351 : decode cL_changes 351 = .ok (.invokestatic 107, 3) := by decide +kernel
theorem dL_changes_354 : decode cL_changes 354 = .ok (.ifCond .ne 7, 3) := by decide +kernel
theorem dL_changes_357 : decode cL_changes 357 = .ok (.iconst 1, 1) := by decide +kernel
theorem dL_changes_358 : decode cL_changes 358 = .ok (.goto 4, 3) := by decide +kernel
theorem dL_changes_361 : decode cL_changes 361 = .ok (.iconst 0, 1) := by decide +kernel
theorem dL_changes_362 : decode cL_changes 362 = .ok (.invokestatic 139, 3) := by decide +kernel
theorem dL_changes_365 : decode cL_changes 365 = .ok (.istore 9, 2) := by decide +kernel
theorem dL_changes_367 : decode cL_changes 367 = .ok (.iload 9, 2) := by decide +kernel
theorem dL_changes_369 : decode cL_changes 369 = .ok (.ifCond .lt 15, 3) := by decide +kernel
theorem dL_changes_372 : decode cL_changes 372 = .ok (.iload 9, 2) := by decide +kernel
theorem dL_changes_374 : decode cL_changes 374 = .ok (.aload_n 1, 1) := by decide +kernel
theorem dL_changes_375 : decode cL_changes 375 = .ok (.iconst 0, 1) := by decide +kernel
theorem dL_changes_376 : decode cL_changes 376 = .ok (.iaload, 1) := by decide +kernel
theorem dL_changes_377 : decode cL_changes 377 = .ok (.if_icmp .gt 7, 3) := by decide +kernel
theorem dL_changes_380 : decode cL_changes 380 = .ok (.iconst 1, 1) := by decide +kernel
theorem dL_changes_381 : decode cL_changes 381 = .ok (.goto 4, 3) := by decide +kernel
theorem dL_changes_384 : decode cL_changes 384 = .ok (.iconst 0, 1) := by decide +kernel
theorem dL_changes_385 : decode cL_changes 385 = .ok (.ireturn, 1) := by decide +kernel
theorem dL_changes_386 : decode cL_changes 386 = .ok (.iload 5, 2) := by decide +kernel
theorem dL_changes_388 : decode cL_changes 388 = .ok (.bipush 7, 2) := by decide +kernel
theorem dL_changes_390 : decode cL_changes 390 = .ok (.if_icmp .ne 80, 3) := by decide +kernel
theorem dL_changes_393 : decode cL_changes 393 = .ok (.aload_n 1, 1) := by decide +kernel
theorem dL_changes_394 : decode cL_changes 394 = .ok (.iconst 0, 1) := by decide +kernel
theorem dL_changes_395 : decode cL_changes 395 = .ok (.iaload, 1) := by decide +kernel
theorem dL_changes_396 : decode cL_changes 396 = .ok (.ifCond .ne 7, 3) := by decide +kernel
theorem dL_changes_399 : decode cL_changes 399 = .ok (.iconst 0, 1) := by decide +kernel
theorem dL_changes_400 : decode cL_changes 400 = .ok (.goto 14, 3) := by decide +kernel
theorem dL_changes_403 : decode cL_changes 403 = .ok (.iload 4, 2) := by decide +kernel
theorem dL_changes_405 : decode cL_changes 405 = .ok (.bipush 6, 2) := by decide +kernel
theorem dL_changes_407 : decode cL_changes 407 = .ok (.ishr, 1) := by decide +kernel
theorem dL_changes_408 : decode cL_changes 408 = .ok (.aload_n 1, 1) := by decide +kernel
theorem dL_changes_409 : decode cL_changes 409 = .ok (.iconst 0, 1) := by decide +kernel
theorem dL_changes_410 : decode cL_changes 410 = .ok (.iaload, 1) := by decide +kernel
theorem dL_changes_411 : decode cL_changes 411 = .ok (.invokestatic 107, 3) := by decide +kernel
theorem dL_changes_414 : decode cL_changes 414 = .ok (.istore 9, 2) := by decide +kernel
theorem dL_changes_416 : decode cL_changes 416 = .ok (.aload_n 0, 1) := by decide +kernel
theorem dL_changes_417 : decode cL_changes 417 = .ok (.iload 8, 2) := by decide +kernel
theorem dL_changes_419 : decode cL_changes 419 = .ok (.iload 9, 2) := by decide +kernel
theorem dL_changes_421 : decode cL_changes 421 = .ok (.invokestatic 141, 3) := by decide +kernel
theorem dL_changes_424 : decode cL_changes 424 = .ok (.istore 10, 2) := by decide +kernel
theorem dL_changes_426 : decode cL_changes 426 = .ok (.iload 10, 2) := by decide +kernel
theorem dL_changes_428 : decode cL_changes 428 = .ok (.ifCond .ne 18, 3) := by decide +kernel
theorem dL_changes_431 : decode cL_changes 431 = .ok (.iload 8, 2) := by decide +kernel
theorem dL_changes_433 : decode cL_changes 433 = .ok (.iload 9, 2) := by decide +kernel
theorem dL_changes_435 : decode cL_changes 435 = .ok (.if_icmp .eq 7, 3) := by decide +kernel
theorem dL_changes_438 : decode cL_changes 438 = .ok (.iconst 1, 1) := by decide +kernel
theorem dL_changes_439 : decode cL_changes 439 = .ok (.goto 30, 3) := by decide +kernel
theorem dL_changes_442 : decode cL_changes 442 = .ok (.iconst 0, 1) := by decide +kernel
theorem dL_changes_443 : decode cL_changes 443 = .ok (.goto 26, 3) := by decide +kernel
theorem dL_changes_446 : decode cL_changes 446 = .ok (.iload 10, 2) := by decide +kernel
theorem dL_changes_448 : decode cL_changes 448 = .ok (.aload_n 1, 1) := by decide +kernel
theorem dL_changes_449 : decode cL_changes 449 = .ok (.iconst 0, 1) := by decide +kernel
theorem dL_changes_450 : decode cL_changes 450 = .ok (.iaload, 1) := by decide +kernel
theorem dL_changes_451 : decode cL_changes 451 = .ok (.ifCond .ne 8, 3) := by decide +kernel
theorem dL_changes_454 : decode cL_changes 454 = .ok (.ldc 18, 2) := by decide +kernel
theorem dL_changes_456 : decode cL_changes 456 = .ok (.goto 5, 3) := by decide +kernel
theorem dL_changes_459 : decode cL_changes 459 = .ok (.ldc 44, 2) := by decide +kernel
theorem dL_changes_461 : decode cL_changes 461 = .ok (.if_icmp .ne 7, 3) := by decide +kernel
theorem dL_changes_464 : decode cL_changes 464 = .ok (.iconst 1, 1) := by decide +kernel
theorem dL_changes_465 : decode cL_changes 465 = .ok (.goto 4, 3) := by decide +kernel
theorem dL_changes_468 : decode cL_changes 468 = .ok (.iconst 0, 1) := by decide +kernel
theorem dL_changes_469 : decode cL_changes 469 = .ok (.ireturn, 1) := by decide +kernel
theorem dL_changes_470 : decode cL_changes 470 = .ok (.iload 5, 2) := by decide +kernel
theorem dL_changes_472 : decode cL_changes 472 = .ok (.bipush 10, 2) := by decide +kernel
theorem dL_changes_474 : decode cL_changes 474 = .ok (.if_icmp .ge 149, 3) := by decide +kernel
theorem dL_changes_477 : decode cL_changes 477 = .ok (.aload_n 0, 1) := by decide +kernel
theorem dL_changes_478 : decode cL_changes 478 = .ok (.iload 8, 2) := by decide +kernel
theorem dL_changes_480 : decode cL_changes 480 = .ok (.invokestatic 144, 3) := by decide +kernel
theorem dL_changes_483 : decode cL_changes 483 = .ok (.istore 9, 2) := by decide +kernel
theorem dL_changes_485 : decode cL_changes 485 = .ok (.iload 5, 2) := by decide +kernel
theorem dL_changes_487 : decode cL_changes 487 = .ok (.bipush 8, 2) := by decide +kernel
theorem dL_changes_489 : decode cL_changes 489 = .ok (.if_icmp .ne 12, 3) := by decide +kernel
theorem dL_changes_492 : decode cL_changes 492 = .ok (.aload_n 0, 1) := by decide +kernel
theorem dL_changes_493 : decode cL_changes 493 = .ok (.iload 8, 2) := by decide +kernel
theorem dL_changes_495 : decode cL_changes 495 = .ok (.invokestatic 147, 3) := by decide +kernel
theorem dL_changes_498 : decode cL_changes 498 = .ok (.goto 9, 3) := by decide +kernel
theorem dL_changes_501 : decode cL_changes 501 = .ok (.aload_n 0, 1) := by decide +kernel
theorem dL_changes_502 : decode cL_changes 502 = .ok (.iload 8, 2) := by decide +kernel
theorem dL_changes_504 : decode cL_changes 504 = .ok (.invokestatic 149, 3) := by decide +kernel
theorem dL_changes_507 : decode cL_changes 507 = .ok (.istore 10, 2) := by decide +kernel
theorem dL_changes_509 : decode cL_changes 509 = .ok (.iload 5, 2) := by decide +kernel
theorem dL_changes_511 : decode cL_changes 511 = .ok (.bipush 8, 2) := by decide +kernel
theorem dL_changes_513 : decode cL_changes 513 = .ok (.if_icmp .ne 17, 3) := by decide +kernel
theorem dL_changes_516 : decode cL_changes 516 = .ok (.iload 9, 2) := by decide +kernel
theorem dL_changes_518 : decode cL_changes 518 = .ok (.iconst 4, 1) := by decide +kernel
theorem dL_changes_519 : decode cL_changes 519 = .ok (.if_icmp .ge 7, 3) := by decide +kernel
theorem dL_changes_522 : decode cL_changes 522 = .ok (.iconst 1, 1) := by decide +kernel
theorem dL_changes_523 : decode cL_changes 523 = .ok (.goto 18, 3) := by decide +kernel
theorem dL_changes_526 : decode cL_changes 526 = .ok (.iconst 0, 1) := by decide +kernel
theorem dL_changes_527 : decode cL_changes 527 = .ok (.goto 14, 3) := by decide +kernel
theorem dL_changes_530 : decode cL_changes 530 = .ok (.iload 9, 2) := by decide +kernel
theorem dL_changes_532 : decode cL_changes 532 = .ok (.iconst 1, 1) := by decide +kernel
theorem dL_changes_533 : decode cL_changes 533 = .ok (.if_icmp .ne 7, 3) := by decide +kernel
theorem dL_changes_536 : decode cL_changes 536 = .ok (.iconst 1, 1) := by decide +kernel
theorem dL_changes_537 : decode cL_changes 537 = .ok (.goto 4, 3) := by decide +kernel
theorem dL_changes_540 : decode cL_changes 540 = .ok (.iconst 0, 1) := by decide +kernel
theorem dL_changes_541 : decode cL_changes 541 = .ok (.istore 11, 2) := by decide +kernel
theorem dL_changes_543 : decode cL_changes 543 = .ok (.aload_n 1, 1) := by decide +kernel
theorem dL_changes_544 : decode cL_changes 544 = .ok (.iconst 0, 1) := by decide +kernel
theorem dL_changes_545 : decode cL_changes 545 = .ok (.iaload, 1) := by decide +kernel
theorem dL_changes_546 : decode cL_changes 546 = .ok (.ifCond .ne 18, 3) := by decide +kernel
theorem dL_changes_549 : decode cL_changes 549 = .ok (.iload 10, 2) := by decide +kernel
theorem dL_changes_551 : decode cL_changes 551 = .ok (.ldc 18, 2) := by decide +kernel
theorem dL_changes_553 : decode cL_changes 553 = .ok (.if_icmp .ne 7, 3) := by decide +kernel
theorem dL_changes_556 : decode cL_changes 556 = .ok (.iconst 1, 1) := by decide +kernel
theorem dL_changes_557 : decode cL_changes 557 = .ok (.goto 65, 3) := by decide +kernel
theorem dL_changes_560 : decode cL_changes 560 = .ok (.iconst 0, 1) := by decide +kernel
theorem dL_changes_561 : decode cL_changes 561 = .ok (.goto 61, 3) := by decide +kernel
theorem dL_changes_564 : decode cL_changes 564 = .ok (.iload 11, 2) := by decide +kernel
theorem dL_changes_566 : decode cL_changes 566 = .ok (.ifCond .eq 33, 3) := by decide +kernel
theorem dL_changes_569 : decode cL_changes 569 = .ok (.iload 10, 2) := by decide +kernel
theorem dL_changes_571 : decode cL_changes 571 = .ok (.iconst 1, 1) := by decide +kernel
theorem dL_changes_572 : decode cL_changes 572 = .ok (.if_icmp .eq 9, 3) := by decide +kernel
theorem dL_changes_575 : decode cL_changes 575 = .ok (.iload 10, 2) := by decide +kernel
theorem dL_changes_577 : decode cL_changes 577 = .ok (.iconst 2, 1) := by decide +kernel
theorem dL_changes_578 : decode cL_changes 578 = .ok (.if_icmp .ne 17, 3) := by decide +kernel
theorem dL_changes_581 : decode cL_changes 581 = .ok (.aload_n 0, 1) := by decide +kernel
theorem dL_changes_582 : decode cL_changes 582 = .ok (.iload 8, 2) := by decide +kernel
theorem dL_changes_584 : decode cL_changes 584 = .ok (.invokestatic 144, 3) := by decide +kernel
theorem dL_changes_587 : decode cL_changes 587 = .ok (.iconst 5, 1) := by decide +kernel
theorem dL_changes_588 : decode cL_changes 588 = .ok (.if_icmp .ne 7, 3) := by decide +kernel
theorem dL_changes_591 : decode cL_changes 591 = .ok (.iconst 1, 1) := by decide +kernel
theorem dL_changes_592 : decode cL_changes 592 = .ok (.goto 30, 3) := by decide +kernel
theorem dL_changes_595 : decode cL_changes 595 = .ok (.iconst 0, 1) := by decide +kernel
theorem dL_changes_596 : decode cL_changes 596 = .ok (.goto 26, 3) := by decide +kernel
theorem dL_changes_599 : decode cL_changes 599 = .ok (.iload 10, 2) := by decide +kernel
theorem dL_changes_601 : decode cL_changes 601 = .ok (.ldc 44, 2) := by decide +kernel
theorem dL_changes_603 : decode cL_changes 603 = .ok (.if_icmp .ne 18, 3) := by decide +kernel
theorem dL_changes_606 : decode cL_changes 606 = .ok (.aload_n 0, 1) := by decide +kernel
theorem dL_changes_607 : decode cL_changes 607 = .ok (.iload 8, 2) := by decide +kernel
theorem dL_changes_609 : decode cL_changes 609 = .ok (.invokestatic 144, 3) := by decide +kernel
theorem dL_changes_612 : decode cL_changes 612 = .ok (.iload 9, 2) := by decide +kernel
theorem dL_changes_614 : decode cL_changes 614 = .ok (.if_icmp .ne 7, 3) := by decide +kernel
theorem dL_changes_617 : decode cL_changes 617 = .ok (.iconst 1, 1) := by decide +kernel
theorem dL_changes_618 : decode cL_changes 618 = .ok (.goto 4, 3) := by decide +kernel
theorem dL_changes_621 : decode cL_changes 621 = .ok (.iconst 0, 1) := by decide +kernel
theorem dL_changes_622 : decode cL_changes 622 = .ok (.ireturn, 1) := by decide +kernel
theorem dL_changes_623 : decode cL_changes 623 = .ok (.iload 5, 2) := by decide +kernel
theorem dL_changes_625 : decode cL_changes 625 = .ok (.bipush 10, 2) := by decide +kernel
theorem dL_changes_627 : decode cL_changes 627 = .ok (.if_icmp .ne 110, 3) := by decide +kernel
theorem dL_changes_630 : decode cL_changes 630 = .ok (.aload_n 0, 1) := by decide +kernel
theorem dL_changes_631 : decode cL_changes 631 = .ok (.iload 8, 2) := by decide +kernel
theorem dL_changes_633 : decode cL_changes 633 = .ok (.invokestatic 144, 3) := by decide +kernel
theorem dL_changes_636 : decode cL_changes 636 = .ok (.istore 9, 2) := by decide +kernel
theorem dL_changes_638 : decode cL_changes 638 = .ok (.aload_n 0, 1) := by decide +kernel
theorem dL_changes_639 : decode cL_changes 639 = .ok (.iload 8, 2) := by decide +kernel
theorem dL_changes_641 : decode cL_changes 641 = .ok (.iload 4, 2) := by decide +kernel
theorem dL_changes_643 : decode cL_changes 643 = .ok (.bipush 6, 2) := by decide +kernel
theorem dL_changes_645 : decode cL_changes 645 = .ok (.ishr, 1) := by decide +kernel
theorem dL_changes_646 : decode cL_changes 646 = .ok (.iconst 4, 1) := by decide +kernel
theorem dL_changes_647 : decode cL_changes 647 = .ok (.invokestatic 107, 3) := by decide +kernel
theorem dL_changes_650 : decode cL_changes 650 = .ok (.invokestatic 151, 3) := by decide +kernel
theorem dL_changes_653 : decode cL_changes 653 = .ok (.istore 10, 2) := by decide +kernel
theorem dL_changes_655 : decode cL_changes 655 = .ok (.aload_n 1, 1) := by decide +kernel
theorem dL_changes_656 : decode cL_changes 656 = .ok (.iconst 0, 1) := by decide +kernel
theorem dL_changes_657 : decode cL_changes 657 = .ok (.iaload, 1) := by decide +kernel
theorem dL_changes_658 : decode cL_changes 658 = .ok (.ifCond .ne 18, 3) := by decide +kernel
theorem dL_changes_661 : decode cL_changes 661 = .ok (.iload 10, 2) := by decide +kernel
theorem dL_changes_663 : decode cL_changes 663 = .ok (.ldc 18, 2) := by decide +kernel
theorem dL_changes_665 : decode cL_changes 665 = .ok (.if_icmp .ne 7, 3) := by decide +kernel
theorem dL_changes_668 : decode cL_changes 668 = .ok (.iconst 1, 1) := by decide +kernel
theorem dL_changes_669 : decode cL_changes 669 = .ok (.goto 67, 3) := by decide +kernel
theorem dL_changes_672 : decode cL_changes 672 = .ok (.iconst 0, 1) := by decide +kernel
theorem dL_changes_673 : decode cL_changes 673 = .ok (.goto 63, 3) := by decide +kernel
theorem dL_changes_676 : decode cL_changes 676 = .ok (.iload 9, 2) := by decide +kernel
theorem dL_changes_678 : decode cL_changes 678 = .ok (.iconst 1, 1) := by decide +kernel
theorem dL_changes_679 : decode cL_changes 679 = .ok (.if_icmp .eq 18, 3) := by decide +kernel
theorem dL_changes_682 : decode cL_changes 682 = .ok (.iload 10, 2) := by decide +kernel
theorem dL_changes_684 : decode cL_changes 684 = .ok (.ldc 44, 2) := by decide +kernel
theorem dL_changes_686 : decode cL_changes 686 = .ok (.if_icmp .ne 7, 3) := by decide +kernel
theorem dL_changes_689 : decode cL_changes 689 = .ok (.iconst 1, 1) := by decide +kernel
theorem dL_changes_690 : decode cL_changes 690 = .ok (.goto 46, 3) := by decide +kernel
theorem dL_changes_693 : decode cL_changes 693 = .ok (.iconst 0, 1) := by decide +kernel
theorem dL_changes_694 : decode cL_changes 694 = .ok (.goto 42, 3) := by decide +kernel
theorem dL_changes_697 : decode cL_changes 697 = .ok (.iload 10, 2) := by decide +kernel
theorem dL_changes_699 : decode cL_changes 699 = .ok (.iconst 1, 1) := by decide +kernel
theorem dL_changes_700 : decode cL_changes 700 = .ok (.if_icmp .ne 21, 3) := by decide +kernel
theorem dL_changes_703 : decode cL_changes 703 = .ok (.aload_n 0, 1) := by decide +kernel
theorem dL_changes_704 : decode cL_changes 704 = .ok (.iload 8, 2) := by decide +kernel
theorem dL_changes_706 : decode cL_changes 706 = .ok (.invokestatic 144, 3) := by decide +kernel
theorem dL_changes_709 : decode cL_changes 709 = .ok (.iconst 1, 1) := by decide +kernel
theorem dL_changes_710 : decode cL_changes 710 = .ok (.if_icmp .le 7, 3) := by decide +kernel
theorem dL_changes_713 : decode cL_changes 713 = .ok (.iconst 1, 1) := by decide +kernel
theorem dL_changes_714 : decode cL_changes 714 = .ok (.goto 22, 3) := by decide +kernel
theorem dL_changes_717 : decode cL_changes 717 = .ok (.iconst 0, 1) := by decide +kernel
theorem dL_changes_718 : decode cL_changes 718 = .ok (.goto 18, 3) := by decide +kernel
theorem dL_changes_721 : decode cL_changes 721 = .ok (.aload_n 0, 1) := by decide +kernel
theorem dL_changes_722 : decode cL_changes 722 = .ok (.iload 8, 2) := by decide +kernel
theorem dL_changes_724 : decode cL_changes 724 = .ok (.invokestatic 144, 3) := by decide +kernel
theorem dL_changes_727 : decode cL_changes 727 = .ok (.iconst 1, 1) := by decide +kernel
theorem dL_changes_728 : decode cL_changes 728 = .ok (.if_icmp .ne 7, 3) := by decide +kernel
theorem dL_changes_731 : decode cL_changes 731 = .ok (.iconst 1, 1) := by decide +kernel
theorem dL_changes_732 : decode cL_changes 732 = .ok (.goto 4, 3) := by decide +kernel
theorem dL_changes_735 : decode cL_changes 735 = .ok (.iconst 0, 1) := by decide +kernel
theorem dL_changes_736 : decode cL_changes 736 = .ok (.ireturn, 1) := by decide +kernel
theorem dL_changes_737 : decode cL_changes 737 = .ok (.aload_n 0, 1) := by decide +kernel
theorem dL_changes_738 : decode cL_changes 738 = .ok (.iload 7, 2) := by decide +kernel
theorem dL_changes_740 : decode cL_changes 740 = .ok (.invokestatic 153, 3) := by decide +kernel
theorem dL_changes_743 : decode cL_changes 743 = .ok (.istore 9, 2) := by decide +kernel
theorem dL_changes_745 : decode cL_changes 745 = .ok (.iload 9, 2) := by decide +kernel
theorem dL_changes_747 : decode cL_changes 747 = .ok (.ifCond .lt 15, 3) := by decide +kernel
theorem dL_changes_750 : decode cL_changes 750 = .ok (.iload 9, 2) := by decide +kernel
theorem dL_changes_752 : decode cL_changes 752 = .ok (.aload_n 1, 1) := by decide +kernel
theorem dL_changes_753 : decode cL_changes 753 = .ok (.iconst 0, 1) := by decide +kernel
theorem dL_changes_754 : decode cL_changes 754 = .ok (.iaload, 1) := by decide +kernel
theorem dL_changes_755 : decode cL_changes 755 = .ok (.if_icmp .gt 7, 3) := by decide +kernel
theorem dL_changes_758 : decode cL_changes 758 = .ok (.iconst 1, 1) := by decide +kernel
theorem dL_changes_759 : decode cL_changes 759 = .ok (.goto 4, 3) := by decide +kernel
theorem dL_changes_762 : decode cL_changes 762 = .ok (.iconst 0, 1) := by decide +kernel
theorem dL_changes_763 : decode cL_changes 763 = .ok (.ireturn, 1) := by decide +kernel
theorem dL_goesOn_0 : decode cL_goesOn 0 = .ok (.iload 5, 2) := by decide +kernel
theorem dL_goesOn_2 : decode cL_goesOn 2 = .ok (.bipush 6, 2) := by decide +kernel
theorem dL_goesOn_4 : decode cL_goesOn 4 = .ok (.invokestatic 107, 3) := by decide +kernel
theorem dL_goesOn_7 : decode cL_goesOn 7 = .ok (.istore 7, 2) := by decide +kernel
theorem dL_goesOn_9 : decode cL_goesOn 9 = .ok (.aload_n 1, 1) := by decide +kernel
theorem dL_goesOn_10 : decode cL_goesOn 10 = .ok (.iconst 0, 1) := by decide +kernel
theorem dL_goesOn_11 : decode cL_goesOn 11 = .ok (.iaload, 1) := by decide +kernel
theorem dL_goesOn_12 : decode cL_goesOn 12 = .ok (.ifCond .ne 7, 3) := by decide +kernel
theorem dL_goesOn_15 : decode cL_goesOn 15 = .ok (.iconst 0, 1) := by decide +kernel
theorem dL_goesOn_16 : decode cL_goesOn 16 = .ok (.goto 11, 3) := by decide +kernel
theorem dL_goesOn_19 : decode cL_goesOn 19 = .ok (.iload 6, 2) := by decide +kernel
theorem dL_goesOn_21 : decode cL_goesOn 21 = .ok (.aload_n 1, 1) := by decide +kernel
theorem dL_goesOn_22 : decode cL_goesOn 22 = .ok (.iconst 0, 1) := by decide +kernel
theorem dL_goesOn_23 : decode cL_goesOn 23 = .ok (.iaload, 1) := by decide +kernel
theorem dL_goesOn_24 : decode cL_goesOn 24 = .ok (.invokestatic 107, 3) := by decide +kernel
theorem dL_goesOn_27 : decode cL_goesOn 27 = .ok (.istore 8, 2) := by decide +kernel
theorem dL_goesOn_29 : decode cL_goesOn 29 = .ok (.iload 7, 2) := by decide +kernel
theorem dL_goesOn_31 : decode cL_goesOn 31 = .ok (.iconst 2, 1) := by decide +kernel
theorem dL_goesOn_32 : decode cL_goesOn 32 = .ok (.if_icmp .ge 69, 3) := by decide +kernel
theorem dL_goesOn_35 : decode cL_goesOn 35 = .ok (.aload_n 1, 1) := by decide +kernel
theorem dL_goesOn_36 : decode cL_goesOn 36 = .ok (.iconst 1, 1) := by decide +kernel
theorem dL_goesOn_37 : decode cL_goesOn 37 = .ok (.iaload, 1) := by decide +kernel
theorem dL_goesOn_38 : decode cL_goesOn 38 = .ok (.sipush 998, 3) := by decide +kernel
theorem dL_goesOn_41 : decode cL_goesOn 41 = .ok (.if_icmp .ne 18, 3) := by decide +kernel
theorem dL_goesOn_44 : decode cL_goesOn 44 = .ok (.aload_n 0, 1) := by decide +kernel
theorem dL_goesOn_45 : decode cL_goesOn 45 = .ok (.invokestatic 155, 3) := by decide +kernel
theorem dL_goesOn_48 : decode cL_goesOn 48 = .ok (.ldc 44, 2) := by decide +kernel
theorem dL_goesOn_50 : decode cL_goesOn 50 = .ok (.if_icmp .ne 7, 3) := by decide +kernel
theorem dL_goesOn_53 : decode cL_goesOn 53 = .ok (.iconst 1, 1) := by decide +kernel
theorem dL_goesOn_54 : decode cL_goesOn 54 = .ok (.goto 4, 3) := by decide +kernel
theorem dL_goesOn_57 : decode cL_goesOn 57 = .ok (.iconst 0, 1) := by decide +kernel
theorem dL_goesOn_58 : decode cL_goesOn 58 = .ok (.ireturn, 1) := by decide +kernel
theorem dL_goesOn_59 : decode cL_goesOn 59 = .ok (.aload_n 0, 1) := by decide +kernel
theorem dL_goesOn_60 : decode cL_goesOn 60 = .ok (.invokestatic 155, 3) := by decide +kernel
theorem dL_goesOn_63 : decode cL_goesOn 63 = .ok (.istore 9, 2) := by decide +kernel
theorem dL_goesOn_65 : decode cL_goesOn 65 = .ok (.aload_n 1, 1) := by decide +kernel
theorem dL_goesOn_66 : decode cL_goesOn 66 = .ok (.iconst 1, 1) := by decide +kernel
theorem dL_goesOn_67 : decode cL_goesOn 67 = .ok (.dup2, 1) := by decide +kernel
theorem dL_goesOn_68 : decode cL_goesOn 68 = .ok (.iaload, 1) := by decide +kernel
theorem dL_goesOn_69 : decode cL_goesOn 69 = .ok (.iconst 1, 1) := by decide +kernel
theorem dL_goesOn_70 : decode cL_goesOn 70 = .ok (.iadd, 1) := by decide +kernel
theorem dL_goesOn_71 : decode cL_goesOn 71 = .ok (.iastore, 1) := by decide +kernel
theorem dL_goesOn_72 : decode cL_goesOn 72 = .ok (.iload 9, 2) := by decide +kernel
theorem dL_goesOn_74 : decode cL_goesOn 74 = .ok (.ifCond .lt 25, 3) := by decide +kernel
theorem dL_goesOn_77 : decode cL_goesOn 77 = .ok (.iload 9, 2) := by decide +kernel
theorem dL_goesOn_79 : decode cL_goesOn 79 = .ok (.aload_n 1, 1) := by decide +kernel
theorem dL_goesOn_80 : decode cL_goesOn 80 = .ok (.iconst 0, 1) := by decide +kernel
theorem dL_goesOn_81 : decode cL_goesOn 81 = .ok (.iaload, 1) := by decide +kernel
theorem dL_goesOn_82 : decode cL_goesOn 82 = .ok (.if_icmp .gt 17, 3) := by decide +kernel
theorem dL_goesOn_85 : decode cL_goesOn 85 = .ok (.aload_n 0, 1) := by decide +kernel
theorem dL_goesOn_86 : decode cL_goesOn 86 = .ok (.invokevirtual 158, 3) := by decide +kernel
theorem dL_goesOn_89 : decode cL_goesOn 89 = .ok (.aload_n 1, 1) := by decide +kernel
theorem dL_goesOn_90 : decode cL_goesOn 90 = .ok (.iconst 1, 1) := by decide +kernel
theorem dL_goesOn_91 : decode cL_goesOn 91 = .ok (.iaload, 1) := by decide +kernel
theorem dL_goesOn_92 : decode cL_goesOn 92 = .ok (.if_icmp .ne 7, 3) := by decide +kernel
theorem dL_goesOn_95 : decode cL_goesOn 95 = .ok (.iconst 1, 1) := by decide +kernel
theorem dL_goesOn_96 : decode cL_goesOn 96 = .ok (.goto 4, 3) := by decide +kernel
theorem dL_goesOn_99 : decode cL_goesOn 99 = .ok (.iconst 0, 1) := by decide +kernel
theorem dL_goesOn_100 : decode cL_goesOn 100 = .ok (.ireturn, 1) := by decide +kernel
theorem dL_goesOn_101 : decode cL_goesOn 101 = .ok (.iload 7, 2) := by decide +kernel
theorem dL_goesOn_103 : decode cL_goesOn 103 = .ok (.iconst 2, 1) := by decide +kernel
theorem dL_goesOn_104 : decode cL_goesOn 104 = .ok (.if_icmp .ne 65, 3) := by decide +kernel
theorem dL_goesOn_107 : decode cL_goesOn 107 = .ok (.aload_n 0, 1) := by decide +kernel
theorem dL_goesOn_108 : decode cL_goesOn 108 = .ok (.iload 8, 2) := by decide +kernel
theorem dL_goesOn_110 : decode cL_goesOn 110 = .ok (.invokestatic 161, 3) := by decide +kernel
theorem dL_goesOn_113 : decode cL_goesOn 113 = .ok (.istore 9, 2) := by decide +kernel
theorem dL_goesOn_115 : decode cL_goesOn 115 = .ok (.aload_n 1, 1) := by decide +kernel
theorem dL_goesOn_116 : decode cL_goesOn 116 = .ok (.iconst 0, 1) := by decide +kernel
theorem dL_goesOn_117 : decode cL_goesOn 117 = .ok (.iaload, 1) := by decide +kernel
theorem dL_goesOn_118 : decode cL_goesOn 118 = .ok (.ifCond .ne 18, 3) := by decide +kernel
theorem dL_goesOn_121 : decode cL_goesOn 121 = .ok (.iload 9, 2) := by decide +kernel
theorem dL_goesOn_123 : decode cL_goesOn 123 = .ok (.ldc 18, 2) := by decide +kernel
theorem dL_goesOn_125 : decode cL_goesOn 125 = .ok (.if_icmp .ne 7, 3) := by decide +kernel
theorem dL_goesOn_128 : decode cL_goesOn 128 = .ok (.iconst 1, 1) := by decide +kernel
theorem dL_goesOn_129 : decode cL_goesOn 129 = .ok (.goto 39, 3) := by decide +kernel
theorem dL_goesOn_132 : decode cL_goesOn 132 = .ok (.iconst 0, 1) := by decide +kernel
