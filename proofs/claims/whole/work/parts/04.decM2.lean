theorem dX12_line_34 : decode cX12_line 34 = .ok (.iconst 0, 1) := by decide +kernel
theorem dX12_line_35 : decode cX12_line 35 = .ok (.ireturn, 1) := by decide +kernel
theorem dX12_line_36 : decode cX12_line 36 = .ok (.aload_n 0, 1) := by decide +kernel
theorem dX12_line_37 : decode cX12_line 37 = .ok (.getfield 13, 3) := by decide +kernel
theorem dX12_line_40 : decode cX12_line 40 = .ok (.iload_n 1, 1) := by decide +kernel
theorem dX12_line_41 : decode cX12_line 41 = .ok (.iload_n 2, 1) := by decide +kernel
theorem dX12_line_42 : decode cX12_line 42 = .ok (.invokestatic 120, 3) := by decide +kernel
theorem dX12_line_45 : decode cX12_line 45 = .ok (.iaload, 1) := by decide +kernel
theorem dX12_line_46 : decode cX12_line 46 = .ok (.istore 4, 2) := by decide +kernel
theorem dX12_line_48 : decode cX12_line 48 = .ok (.aload_n 0, 1) := by decide +kernel
theorem dX12_line_49 : decode cX12_line 49 = .ok (.getfield 13, 3) := by decide +kernel
theorem dX12_line_52 : decode cX12_line 52 = .ok (.iload_n 1, 1) := by decide +kernel
theorem dX12_line_53 : decode cX12_line 53 = .ok (.iload_n 2, 1) := by decide +kernel
theorem dX12_line_54 : decode cX12_line 54 = .ok (.invokestatic 120, 3) := by decide +kernel
theorem dX12_line_57 : decode cX12_line 57 = .ok (.iload_n 3, 1) := by decide +kernel
theorem dX12_line_58 : decode cX12_line 58 = .ok (.iastore, 1) := by decide +kernel
theorem dX12_line_59 : decode cX12_line 59 = .ok (.aload_n 0, 1) := by decide +kernel
theorem dX12_line_60 : decode cX12_line 60 = .ok (.invokevirtual 208, 3) := by decide +kernel
theorem dX12_line_63 : decode cX12_line 63 = .ok (.istore 5, 2) := by decide +kernel
theorem dX12_line_65 : decode cX12_line 65 = .ok (.iload 4, 2) := by decide +kernel
theorem dX12_line_67 : decode cX12_line 67 = .ok (.ireturn, 1) := by decide +kernel
theorem dX12_limit_0 : decode cX12_limit 0 = .ok (.iload_n 1, 1) := by decide +kernel
theorem dX12_limit_1 : decode cX12_limit 1 = .ok (.invokestatic 183, 3) := by decide +kernel
theorem dX12_limit_4 : decode cX12_limit 4 = .ok (.ifCond .eq 21, 3) := by decide +kernel
theorem dX12_limit_7 : decode cX12_limit 7 = .ok (.iload_n 2, 1) := by decide +kernel
theorem dX12_limit_8 : decode cX12_limit 8 = .ok (.invokestatic 183, 3) := by decide +kernel
theorem dX12_limit_11 : decode cX12_limit 11 = .ok (.ifCond .eq 14, 3) := by decide +kernel
theorem dX12_limit_14 : decode cX12_limit 14 = .ok (.iload_n 3, 1) := by decide +kernel
theorem dX12_limit_15 : decode cX12_limit 15 = .ok (.invokestatic 186, 3) := by decide +kernel
theorem dX12_limit_18 : decode cX12_limit 18 = .ok (.ifCond .eq 7, 3) := by decide +kernel
theorem dX12_limit_21 : decode cX12_limit 21 = .ok (.iconst 1, 1) := by decide +kernel
theorem dX12_limit_22 : decode cX12_limit 22 = .ok (.goto 4, 3) := by decide +kernel
theorem dX12_limit_25 : decode cX12_limit 25 = .ok (.iconst 0, 1) := by decide +kernel
theorem dX12_limit_26 : decode cX12_limit 26 = .ok (.istore 5, 2) := by decide +kernel
theorem dX12_limit_28 : decode cX12_limit 28 = .ok (.aload_n 0, 1) := by decide +kernel
theorem dX12_limit_29 : decode cX12_limit 29 = .ok (.iload 5, 2) := by decide +kernel
theorem dX12_limit_31 : decode cX12_limit 31 = .ok (.iload_n 1, 1) := by decide +kernel
theorem dX12_limit_32 : decode cX12_limit 32 = .ok (.iload_n 2, 1) := by decide +kernel
theorem dX12_limit_33 : decode cX12_limit 33 = .ok (.if_icmp .eq 18, 3) := by decide +kernel
theorem dX12_limit_36 : decode cX12_limit 36 = .ok (.iload 4, 2) := by decide +kernel
theorem dX12_limit_38 : decode cX12_limit 38 = .ok (.iconst (-1), 1) := by decide +kernel
theorem dX12_limit_39 : decode cX12_limit 39 = .ok (.ldc 192, 2) := by decide +kernel
theorem dX12_limit_41 : decode cX12_limit 41 = .ok (.invokestatic 110, 3) := by decide +kernel
theorem dX12_limit_44 : decode cX12_limit 44 = .ok (.ifCond .eq 7, 3) := by decide +kernel
theorem dX12_limit_47 : decode cX12_limit 47 = .ok (.iconst 1, 1) := by decide +kernel
theorem dX12_limit_48 : decode cX12_limit 48 = .ok (.goto 4, 3) := by decide +kernel
theorem dX12_limit_51 : decode cX12_limit 51 = .ok (.iconst 0, 1) := by decide +kernel
theorem dX12_limit_52 : decode cX12_limit 52 = .ok (.iconst 1, 1) := by decide +kernel
theorem dX12_limit_53 : decode cX12_limit 53 = .ok (.invokevirtual 197, 3) := by decide +kernel
theorem dX12_limit_56 : decode cX12_limit 56 = .ok (.ifCond .ne 5, 3) := by decide +kernel
theorem dX12_limit_59 : decode cX12_limit 59 = .ok (.iconst 0, 1) := by decide +kernel
theorem dX12_limit_60 : decode cX12_limit 60 = .ok (.ireturn, 1) := by decide +kernel
theorem dX12_limit_61 : decode cX12_limit 61 = .ok (.aload_n 0, 1) := by decide +kernel
theorem dX12_limit_62 : decode cX12_limit 62 = .ok (.getfield 17, 3) := by decide +kernel
theorem dX12_limit_65 : decode cX12_limit 65 = .ok (.iload_n 1, 1) := by decide +kernel
theorem dX12_limit_66 : decode cX12_limit 66 = .ok (.iload_n 2, 1) := by decide +kernel
theorem dX12_limit_67 : decode cX12_limit 67 = .ok (.iload_n 3, 1) := by decide +kernel
theorem dX12_limit_68 : decode cX12_limit 68 = .ok (.invokestatic 124, 3) := by decide +kernel
theorem dX12_limit_71 : decode cX12_limit 71 = .ok (.iaload, 1) := by decide +kernel
theorem dX12_limit_72 : decode cX12_limit 72 = .ok (.istore 6, 2) := by decide +kernel
theorem dX12_limit_74 : decode cX12_limit 74 = .ok (.aload_n 0, 1) := by decide +kernel
theorem dX12_limit_75 : decode cX12_limit 75 = .ok (.getfield 17, 3) := by decide +kernel
theorem dX12_limit_78 : decode cX12_limit 78 = .ok (.iload_n 1, 1) := by decide +kernel
theorem dX12_limit_79 : decode cX12_limit 79 = .ok (.iload_n 2, 1) := by decide +kernel
theorem dX12_limit_80 : decode cX12_limit 80 = .ok (.iload_n 3, 1) := by decide +kernel
theorem dX12_limit_81 : decode cX12_limit 81 = .ok (.invokestatic 124, 3) := by decide +kernel
theorem dX12_limit_84 : decode cX12_limit 84 = .ok (.iload 4, 2) := by decide +kernel
theorem dX12_limit_86 : decode cX12_limit 86 = .ok (.iastore, 1) := by decide +kernel
theorem dX12_limit_87 : decode cX12_limit 87 = .ok (.aload_n 0, 1) := by decide +kernel
theorem dX12_limit_88 : decode cX12_limit 88 = .ok (.invokevirtual 208, 3) := by decide +kernel
theorem dX12_limit_91 : decode cX12_limit 91 = .ok (.istore 7, 2) := by decide +kernel
theorem dX12_limit_93 : decode cX12_limit 93 = .ok (.iload 6, 2) := by decide +kernel
theorem dX12_limit_95 : decode cX12_limit 95 = .ok (.ireturn, 1) := by decide +kernel
theorem dX12_out_0 : decode cX12_out 0 = .ok (.aload_n 0, 1) := by decide +kernel
theorem dX12_out_1 : decode cX12_out 1 = .ok (.iload_n 1, 1) := by decide +kernel
theorem dX12_out_2 : decode cX12_out 2 = .ok (.invokestatic 183, 3) := by decide +kernel
theorem dX12_out_5 : decode cX12_out 5 = .ok (.iconst 1, 1) := by decide +kernel
theorem dX12_out_6 : decode cX12_out 6 = .ok (.iconst 1, 1) := by decide +kernel
theorem dX12_out_7 : decode cX12_out 7 = .ok (.invokevirtual 197, 3) := by decide +kernel
theorem dX12_out_10 : decode cX12_out 10 = .ok (.ifCond .ne 5, 3) := by decide +kernel
theorem dX12_out_13 : decode cX12_out 13 = .ok (.iconst 0, 1) := by decide +kernel
theorem dX12_out_14 : decode cX12_out 14 = .ok (.ireturn, 1) := by decide +kernel
theorem dX12_out_15 : decode cX12_out 15 = .ok (.aload_n 0, 1) := by decide +kernel
theorem dX12_out_16 : decode cX12_out 16 = .ok (.getfield 23, 3) := by decide +kernel
theorem dX12_out_19 : decode cX12_out 19 = .ok (.iload_n 1, 1) := by decide +kernel
theorem dX12_out_20 : decode cX12_out 20 = .ok (.baload, 1) := by decide +kernel
theorem dX12_out_21 : decode cX12_out 21 = .ok (.istore_n 3, 1) := by decide +kernel
theorem dX12_out_22 : decode cX12_out 22 = .ok (.aload_n 0, 1) := by decide +kernel
theorem dX12_out_23 : decode cX12_out 23 = .ok (.getfield 23, 3) := by decide +kernel
theorem dX12_out_26 : decode cX12_out 26 = .ok (.iload_n 1, 1) := by decide +kernel
theorem dX12_out_27 : decode cX12_out 27 = .ok (.iload_n 2, 1) := by decide +kernel
theorem dX12_out_28 : decode cX12_out 28 = .ok (.bastore, 1) := by decide +kernel
theorem dX12_out_29 : decode cX12_out 29 = .ok (.aload_n 0, 1) := by decide +kernel
theorem dX12_out_30 : decode cX12_out 30 = .ok (.invokevirtual 208, 3) := by decide +kernel
theorem dX12_out_33 : decode cX12_out 33 = .ok (.istore 4, 2) := by decide +kernel
theorem dX12_out_35 : decode cX12_out 35 = .ok (.iload_n 3, 1) := by decide +kernel
theorem dX12_out_36 : decode cX12_out 36 = .ok (.ireturn, 1) := by decide +kernel
theorem dX12_holiday_0 : decode cX12_holiday 0 = .ok (.aload_n 0, 1) := by decide +kernel
theorem dX12_holiday_1 : decode cX12_holiday 1 = .ok (.iload_n 1, 1) := by decide +kernel
theorem dX12_holiday_2 : decode cX12_holiday 2 = .ok (.invokestatic 186, 3) := by decide +kernel
theorem dX12_holiday_5 : decode cX12_holiday 5 = .ok (.iload_n 2, 1) := by decide +kernel
theorem dX12_holiday_6 : decode cX12_holiday 6 = .ok (.iconst 0, 1) := by decide +kernel
theorem dX12_holiday_7 : decode cX12_holiday 7 = .ok (.sipush 999, 3) := by decide +kernel
theorem dX12_holiday_10 : decode cX12_holiday 10 = .ok (.invokestatic 110, 3) := by decide +kernel
theorem dX12_holiday_13 : decode cX12_holiday 13 = .ok (.iconst 1, 1) := by decide +kernel
theorem dX12_holiday_14 : decode cX12_holiday 14 = .ok (.invokevirtual 197, 3) := by decide +kernel
theorem dX12_holiday_17 : decode cX12_holiday 17 = .ok (.ifCond .ne 5, 3) := by decide +kernel
theorem dX12_holiday_20 : decode cX12_holiday 20 = .ok (.iconst 0, 1) := by decide +kernel
theorem dX12_holiday_21 : decode cX12_holiday 21 = .ok (.ireturn, 1) := by decide +kernel
theorem dX12_holiday_22 : decode cX12_holiday 22 = .ok (.aload_n 0, 1) := by decide +kernel
theorem dX12_holiday_23 : decode cX12_holiday 23 = .ok (.getfield 27, 3) := by decide +kernel
theorem dX12_holiday_26 : decode cX12_holiday 26 = .ok (.sipush 1000, 3) := by decide +kernel
theorem dX12_holiday_29 : decode cX12_holiday 29 = .ok (.iload_n 1, 1) := by decide +kernel
theorem dX12_holiday_30 : decode cX12_holiday 30 = .ok (.imul, 1) := by decide +kernel
theorem dX12_holiday_31 : decode cX12_holiday 31 = .ok (.iload_n 2, 1) := by decide +kernel
theorem dX12_holiday_32 : decode cX12_holiday 32 = .ok (.iadd, 1) := by decide +kernel
theorem dX12_holiday_33 : decode cX12_holiday 33 = .ok (.iload_n 3, 1) := by decide +kernel
theorem dX12_holiday_34 : decode cX12_holiday 34 = .ok (.bastore, 1) := by decide +kernel
theorem dX12_holiday_35 : decode cX12_holiday 35 = .ok (.aload_n 0, 1) := by decide +kernel
theorem dX12_holiday_36 : decode cX12_holiday 36 = .ok (.invokevirtual 208, 3) := by decide +kernel
theorem dX12_holiday_39 : decode cX12_holiday 39 = .ok (.istore 4, 2) := by decide +kernel
theorem dX12_holiday_41 : decode cX12_holiday 41 = .ok (.aload_n 0, 1) := by decide +kernel
theorem dX12_holiday_42 : decode cX12_holiday 42 = .ok (.iload_n 1, 1) := by decide +kernel
theorem dX12_holiday_43 : decode cX12_holiday 43 = .ok (.iload_n 2, 1) := by decide +kernel
theorem dX12_holiday_44 : decode cX12_holiday 44 = .ok (.invokevirtual 138, 3) := by decide +kernel
theorem dX12_holiday_47 : decode cX12_holiday 47 = .ok (.ireturn, 1) := by decide +kernel
theorem dX12_list_0 : decode cX12_list 0 = .ok (.aload_n 0, 1) := by decide +kernel
theorem dX12_list_1 : decode cX12_list 1 = .ok (.iload_n 1, 1) := by decide +kernel
theorem dX12_list_2 : decode cX12_list 2 = .ok (.invokestatic 189, 3) := by decide +kernel
theorem dX12_list_5 : decode cX12_list 5 = .ok (.iconst 1, 1) := by decide +kernel
theorem dX12_list_6 : decode cX12_list 6 = .ok (.iconst 1, 1) := by decide +kernel
theorem dX12_list_7 : decode cX12_list 7 = .ok (.invokevirtual 197, 3) := by decide +kernel
theorem dX12_list_10 : decode cX12_list 10 = .ok (.ifCond .ne 5, 3) := by decide +kernel
theorem dX12_list_13 : decode cX12_list 13 = .ok (.iconst 0, 1) := by decide +kernel
theorem dX12_list_14 : decode cX12_list 14 = .ok (.ireturn, 1) := by decide +kernel
theorem dX12_list_15 : decode cX12_list 15 = .ok (.aload_n 0, 1) := by decide +kernel
theorem dX12_list_16 : decode cX12_list 16 = .ok (.getfield 30, 3) := by decide +kernel
theorem dX12_list_19 : decode cX12_list 19 = .ok (.iload_n 1, 1) := by decide +kernel
theorem dX12_list_20 : decode cX12_list 20 = .ok (.iload_n 2, 1) := by decide +kernel
theorem dX12_list_21 : decode cX12_list 21 = .ok (.bastore, 1) := by decide +kernel
theorem dX12_list_22 : decode cX12_list 22 = .ok (.iconst 0, 1) := by decide +kernel
theorem dX12_list_23 : decode cX12_list 23 = .ok (.istore_n 3, 1) := by decide +kernel
theorem dX12_list_24 : decode cX12_list 24 = .ok (.iconst 0, 1) := by decide +kernel
theorem dX12_list_25 : decode cX12_list 25 = .ok (.istore 4, 2) := by decide +kernel
theorem dX12_list_27 : decode cX12_list 27 = .ok (.iload 4, 2) := by decide +kernel
theorem dX12_list_29 : decode cX12_list 29 = .ok (.aload_n 0, 1) := by decide +kernel
theorem dX12_list_30 : decode cX12_list 30 = .ok (.getfield 114, 3) := by decide +kernel
theorem dX12_list_33 : decode cX12_list 33 = .ok (.if_icmp .ge 67, 3) := by decide +kernel
theorem dX12_list_36 : decode cX12_list 36 = .ok (.iload_n 2, 1) := by decide +kernel
theorem dX12_list_37 : decode cX12_list 37 = .ok (.ifCond .eq 57, 3) := by decide +kernel
theorem dX12_list_40 : decode cX12_list 40 = .ok (.aload_n 0, 1) := by decide +kernel
theorem dX12_list_41 : decode cX12_list 41 = .ok (.getfield 45, 3) := by decide +kernel
theorem dX12_list_44 : decode cX12_list 44 = .ok (.iload 4, 2) := by decide +kernel
theorem dX12_list_46 : decode cX12_list 46 = .ok (.iaload, 1) := by decide +kernel
theorem dX12_list_47 : decode cX12_list 47 = .ok (.iload_n 1, 1) := by decide +kernel
theorem dX12_list_48 : decode cX12_list 48 = .ok (.if_icmp .ne 46, 3) := by decide +kernel
theorem dX12_list_51 : decode cX12_list 51 = .ok (.aload_n 0, 1) := by decide +kernel
theorem dX12_list_52 : decode cX12_list 52 = .ok (.getfield 63, 3) := by decide +kernel
theorem dX12_list_55 : decode cX12_list 55 = .ok (.iload 4, 2) := by decide +kernel
theorem dX12_list_57 : decode cX12_list 57 = .ok (.baload, 1) := by decide +kernel
theorem dX12_list_58 : decode cX12_list 58 = .ok (.ifCond .ne 36, 3) := by decide +kernel
theorem dX12_list_61 : decode cX12_list 61 = .ok (.aload_n 0, 1) := by decide +kernel
theorem dX12_list_62 : decode cX12_list 62 = .ok (.getfield 60, 3) := by decide +kernel
theorem dX12_list_65 : decode cX12_list 65 = .ok (.iload 4, 2) := by decide +kernel
theorem dX12_list_67 : decode cX12_list 67 = .ok (.iaload, 1) := by decide +kernel
theorem dX12_list_68 : decode cX12_list 68 = .ok (.iconst 2, 1) := by decide +kernel
theorem dX12_list_69 : decode cX12_list 69 = .ok (.if_icmp .eq 14, 3) := by decide +kernel
theorem dX12_list_72 : decode cX12_list 72 = .ok (.aload_n 0, 1) := by decide +kernel
theorem dX12_list_73 : decode cX12_list 73 = .ok (.getfield 60, 3) := by decide +kernel
theorem dX12_list_76 : decode cX12_list 76 = .ok (.iload 4, 2) := by decide +kernel
theorem dX12_list_78 : decode cX12_list 78 = .ok (.iaload, 1) := by decide +kernel
theorem dX12_list_79 : decode cX12_list 79 = .ok (.iconst 3, 1) := by decide +kernel
theorem dX12_list_80 : decode cX12_list 80 = .ok (.if_icmp .ne 14, 3) := by decide +kernel
theorem dX12_list_83 : decode cX12_list 83 = .ok (.aload_n 0, 1) := by decide +kernel
theorem dX12_list_84 : decode cX12_list 84 = .ok (.getfield 60, 3) := by decide +kernel
theorem dX12_list_87 : decode cX12_list 87 = .ok (.iload 4, 2) := by decide +kernel
theorem dX12_list_89 : decode cX12_list 89 = .ok (.iconst 1, 1) := by decide +kernel
theorem dX12_list_90 : decode cX12_list 90 = .ok (.iastore, 1) := by decide +kernel
theorem dX12_list_91 : decode cX12_list 91 = .ok (.iinc 3 1, 3) := by decide +kernel
theorem dX12_list_94 : decode cX12_list 94 = .ok (.iinc 4 1, 3) := by decide +kernel
theorem dX12_list_97 : decode cX12_list 97 = .ok (.goto (-70), 3) := by decide +kernel
theorem dX12_list_100 : decode cX12_list 100 = .ok (.aload_n 0, 1) := by decide +kernel
theorem dX12_list_101 : decode cX12_list 101 = .ok (.invokevirtual 208, 3) := by decide +kernel
theorem dX12_list_104 : decode cX12_list 104 = .ok (.istore 4, 2) := by decide +kernel
theorem dX12_list_106 : decode cX12_list 106 = .ok (.iload_n 3, 1) := by decide +kernel
theorem dX12_list_107 : decode cX12_list 107 = .ok (.ireturn, 1) := by decide +kernel
theorem dX12_cutsOff_0 : decode cX12_cutsOff 0 = .ok (.iconst 0, 1) := by decide +kernel
theorem dX12_cutsOff_1 : decode cX12_cutsOff 1 = .ok (.istore_n 2, 1) := by decide +kernel
theorem dX12_cutsOff_2 : decode cX12_cutsOff 2 = .ok (.iload_n 2, 1) := by decide +kernel
theorem dX12_cutsOff_3 : decode cX12_cutsOff 3 = .ok (.bipush 60, 2) := by decide +kernel
theorem dX12_cutsOff_5 : decode cX12_cutsOff 5 = .ok (.if_icmp .ge 76, 3) := by decide +kernel
theorem dX12_cutsOff_8 : decode cX12_cutsOff 8 = .ok (.aload_n 0, 1) := by decide +kernel
theorem dX12_cutsOff_9 : decode cX12_cutsOff 9 = .ok (.getfield 97, 3) := by decide +kernel
theorem dX12_cutsOff_12 : decode cX12_cutsOff 12 = .ok (.iload_n 2, 1) := by decide +kernel
theorem dX12_cutsOff_13 : decode cX12_cutsOff 13 = .ok (.iload_n 2, 1) := by decide +kernel
theorem dX12_cutsOff_14 : decode cX12_cutsOff 14 = .ok (.aload_n 0, 1) := by decide +kernel
theorem dX12_cutsOff_15 : decode cX12_cutsOff 15 = .ok (.getfield 114, 3) := by decide +kernel
theorem dX12_cutsOff_18 : decode cX12_cutsOff 18 = .ok (.if_icmp .ge 55, 3) := by decide +kernel
theorem dX12_cutsOff_21 : decode cX12_cutsOff 21 = .ok (.aload_n 0, 1) := by decide +kernel
theorem dX12_cutsOff_22 : decode cX12_cutsOff 22 = .ok (.getfield 60, 3) := by decide +kernel
theorem dX12_cutsOff_25 : decode cX12_cutsOff 25 = .ok (.iload_n 2, 1) := by decide +kernel
theorem dX12_cutsOff_26 : decode cX12_cutsOff 26 = .ok (.iaload, 1) := by decide +kernel
theorem dX12_cutsOff_27 : decode cX12_cutsOff 27 = .ok (.iconst 3, 1) := by decide +kernel
theorem dX12_cutsOff_28 : decode cX12_cutsOff 28 = .ok (.if_icmp .ne 45, 3) := by decide +kernel
theorem dX12_cutsOff_31 : decode cX12_cutsOff 31 = .ok (.aload_n 0, 1) := by decide +kernel
theorem dX12_cutsOff_32 : decode cX12_cutsOff 32 = .ok (.getfield 39, 3) := by decide +kernel
theorem dX12_cutsOff_35 : decode cX12_cutsOff 35 = .ok (.iload_n 2, 1) := by decide +kernel
theorem dX12_cutsOff_36 : decode cX12_cutsOff 36 = .ok (.iaload, 1) := by decide +kernel
theorem dX12_cutsOff_37 : decode cX12_cutsOff 37 = .ok (.iload_n 1, 1) := by decide +kernel
theorem dX12_cutsOff_38 : decode cX12_cutsOff 38 = .ok (.if_icmp .ne 35, 3) := by decide +kernel
theorem dX12_cutsOff_41 : decode cX12_cutsOff 41 = .ok (.aload_n 0, 1) := by decide +kernel
theorem dX12_cutsOff_42 : decode cX12_cutsOff 42 = .ok (.getfield 23, 3) := by decide +kernel
theorem dX12_cutsOff_45 : decode cX12_cutsOff 45 = .ok (.aload_n 0, 1) := by decide +kernel
theorem dX12_cutsOff_46 : decode cX12_cutsOff 46 = .ok (.getfield 33, 3) := by decide +kernel
theorem dX12_cutsOff_49 : decode cX12_cutsOff 49 = .ok (.iload_n 2, 1) := by decide +kernel
theorem dX12_cutsOff_50 : decode cX12_cutsOff 50 = .ok (.iaload, 1) := by decide +kernel
theorem dX12_cutsOff_51 : decode cX12_cutsOff 51 = .ok (.baload, 1) := by decide +kernel
theorem dX12_cutsOff_52 : decode cX12_cutsOff 52 = .ok (.ifCond .ne 21, 3) := by decide +kernel
theorem dX12_cutsOff_55 : decode cX12_cutsOff 55 = .ok (.aload_n 0, 1) := by decide +kernel
theorem dX12_cutsOff_56 : decode cX12_cutsOff 56 = .ok (.getfield 23, 3) := by decide +kernel
theorem dX12_cutsOff_59 : decode cX12_cutsOff 59 = .ok (.aload_n 0, 1) := by decide +kernel
theorem dX12_cutsOff_60 : decode cX12_cutsOff 60 = .ok (.getfield 36, 3) := by decide +kernel
theorem dX12_cutsOff_63 : decode cX12_cutsOff 63 = .ok (.iload_n 2, 1) := by decide +kernel
theorem dX12_cutsOff_64 : decode cX12_cutsOff 64 = .ok (.iaload, 1) := by decide +kernel
theorem dX12_cutsOff_65 : decode cX12_cutsOff 65 = .ok (.baload, 1) := by decide +kernel
theorem dX12_cutsOff_66 : decode cX12_cutsOff 66 = .ok (.ifCond .ne 7, 3) := by decide +kernel
theorem dX12_cutsOff_69 : decode cX12_cutsOff 69 = .ok (.iconst 1, 1) := by decide +kernel
theorem dX12_cutsOff_70 : decode cX12_cutsOff 70 = .ok (.goto 4, 3) := by decide +kernel
theorem dX12_cutsOff_73 : decode cX12_cutsOff 73 = .ok (.iconst 0, 1) := by decide +kernel
theorem dX12_cutsOff_74 : decode cX12_cutsOff 74 = .ok (.bastore, 1) := by decide +kernel
theorem dX12_cutsOff_75 : decode cX12_cutsOff 75 = .ok (.iinc 2 1, 3) := by decide +kernel
theorem dX12_cutsOff_78 : decode cX12_cutsOff 78 = .ok (.goto (-76), 3) := by decide +kernel
theorem dX12_cutsOff_81 : decode cX12_cutsOff 81 = .ok (.aload_n 0, 1) := by decide +kernel
theorem dX12_cutsOff_82 : decode cX12_cutsOff 82 = .ok (.iload_n 1, 1) := by decide +kernel
theorem dX12_cutsOff_83 : decode cX12_cutsOff 83 = .ok (.iconst 0, 1) := by decide +kernel
theorem dX12_cutsOff_84 : decode cX12_cutsOff 84 = .ok (.invokevirtual 224, 3) := by decide +kernel
theorem dX12_cutsOff_87 : decode cX12_cutsOff 87 = .ok (.ireturn, 1) := by decide +kernel
theorem dX12_charges_0 : decode cX12_charges 0 = .ok (.aload_n 0, 1) := by decide +kernel
theorem dX12_charges_1 : decode cX12_charges 1 = .ok (.getfield 7, 3) := by decide +kernel
theorem dX12_charges_4 : decode cX12_charges 4 = .ok (.iload_n 1, 1) := by decide +kernel
theorem dX12_charges_5 : decode cX12_charges 5 = .ok (.iload_n 2, 1) := by decide +kernel
theorem dX12_charges_6 : decode cX12_charges 6 = .ok (.invokestatic 120, 3) := by decide +kernel
theorem dX12_charges_9 : decode cX12_charges 9 = .ok (.laload, 1) := by decide +kernel
theorem dX12_charges_10 : decode cX12_charges 10 = .ok (.lconst 0, 1) := by decide +kernel
theorem dX12_charges_11 : decode cX12_charges 11 = .ok (.lcmp, 1) := by decide +kernel
theorem dX12_charges_12 : decode cX12_charges 12 = .ok (.ifCond .ge 17, 3) := by decide +kernel
theorem dX12_charges_15 : decode cX12_charges 15 = .ok (.aload_n 0, 1) := by decide +kernel
theorem dX12_charges_16 : decode cX12_charges 16 = .ok (.getfield 7, 3) := by decide +kernel
theorem dX12_charges_19 : decode cX12_charges 19 = .ok (.iload_n 1, 1) := by decide +kernel
theorem dX12_charges_20 : decode cX12_charges 20 = .ok (.iload_n 2, 1) := by decide +kernel
theorem dX12_charges_21 : decode cX12_charges 21 = .ok (.invokestatic 120, 3) := by decide +kernel
theorem dX12_charges_24 : decode cX12_charges 24 = .ok (.laload, 1) := by decide +kernel
theorem dX12_charges_25 : decode cX12_charges 25 = .ok (.lneg, 1) := by decide +kernel
theorem dX12_charges_26 : decode cX12_charges 26 = .ok (.goto 4, 3) := by decide +kernel
theorem dX12_charges_29 : decode cX12_charges 29 = .ok (.lconst 0, 1) := by decide +kernel
theorem dX12_charges_30 : decode cX12_charges 30 = .ok (.lstore_n 3, 1) := by decide +kernel
theorem dX12_charges_31 : decode cX12_charges 31 = .ok (.iconst 0, 1) := by decide +kernel
theorem dX12_charges_32 : decode cX12_charges 32 = .ok (.istore 5, 2) := by decide +kernel
theorem dX12_charges_34 : decode cX12_charges 34 = .ok (.iconst 0, 1) := by decide +kernel
theorem dX12_charges_35 : decode cX12_charges 35 = .ok (.istore 6, 2) := by decide +kernel
theorem dX12_charges_37 : decode cX12_charges 37 = .ok (.iload 6, 2) := by decide +kernel
theorem dX12_charges_39 : decode cX12_charges 39 = .ok (.aload_n 0, 1) := by decide +kernel
theorem dX12_charges_40 : decode cX12_charges 40 = .ok (.getfield 114, 3) := by decide +kernel
theorem dX12_charges_43 : decode cX12_charges 43 = .ok (.if_icmp .ge 92, 3) := by decide +kernel
theorem dX12_charges_46 : decode cX12_charges 46 = .ok (.aload_n 0, 1) := by decide +kernel
theorem dX12_charges_47 : decode cX12_charges 47 = .ok (.getfield 60, 3) := by decide +kernel
theorem dX12_charges_50 : decode cX12_charges 50 = .ok (.iload 6, 2) := by decide +kernel
theorem dX12_charges_52 : decode cX12_charges 52 = .ok (.iaload, 1) := by decide +kernel
theorem dX12_charges_53 : decode cX12_charges 53 = .ok (.iconst 4, 1) := by decide +kernel
theorem dX12_charges_54 : decode cX12_charges 54 = .ok (.if_icmp .ne 43, 3) := by decide +kernel
theorem dX12_charges_57 : decode cX12_charges 57 = .ok (.aload_n 0, 1) := by decide +kernel
theorem dX12_charges_58 : decode cX12_charges 58 = .ok (.getfield 72, 3) := by decide +kernel
theorem dX12_charges_61 : decode cX12_charges 61 = .ok (.iload 6, 2) := by decide +kernel
theorem dX12_charges_63 : decode cX12_charges 63 = .ok (.iaload, 1) := by decide +kernel
theorem dX12_charges_64 : decode cX12_charges 64 = .ok (.aload_n 0, 1) := by decide +kernel
theorem dX12_charges_65 : decode cX12_charges 65 = .ok (.getfield 135, 3) := by decide +kernel
theorem dX12_charges_68 : decode cX12_charges 68 = .ok (.if_icmp .ne 29, 3) := by decide +kernel
theorem dX12_charges_71 : decode cX12_charges 71 = .ok (.aload_n 0, 1) := by decide +kernel
theorem dX12_charges_72 : decode cX12_charges 72 = .ok (.getfield 33, 3) := by decide +kernel
theorem dX12_charges_75 : decode cX12_charges 75 = .ok (.iload 6, 2) := by decide +kernel
theorem dX12_charges_77 : decode cX12_charges 77 = .ok (.iaload, 1) := by decide +kernel
theorem dX12_charges_78 : decode cX12_charges 78 = .ok (.iload_n 1, 1) := by decide +kernel
theorem dX12_charges_79 : decode cX12_charges 79 = .ok (.if_icmp .ne 18, 3) := by decide +kernel
theorem dX12_charges_82 : decode cX12_charges 82 = .ok (.aload_n 0, 1) := by decide +kernel
theorem dX12_charges_83 : decode cX12_charges 83 = .ok (.getfield 39, 3) := by decide +kernel
theorem dX12_charges_86 : decode cX12_charges 86 = .ok (.iload 6, 2) := by decide +kernel
theorem dX12_charges_88 : decode cX12_charges 88 = .ok (.iaload, 1) := by decide +kernel
theorem dX12_charges_89 : decode cX12_charges 89 = .ok (.iload_n 2, 1) := by decide +kernel
theorem dX12_charges_90 : decode cX12_charges 90 = .ok (.if_icmp .ne 7, 3) := by decide +kernel
theorem dX12_charges_93 : decode cX12_charges 93 = .ok (.iconst 1, 1) := by decide +kernel
theorem dX12_charges_94 : decode cX12_charges 94 = .ok (.goto 4, 3) := by decide +kernel
theorem dX12_charges_97 : decode cX12_charges 97 = .ok (.iconst 0, 1) := by decide +kernel
theorem dX12_charges_98 : decode cX12_charges 98 = .ok (.istore 7, 2) := by decide +kernel
theorem dX12_charges_100 : decode cX12_charges 100 = .ok (.iload 5, 2) := by decide +kernel
theorem dX12_charges_102 : decode cX12_charges 102 = .ok (.iload 7, 2) := by decide +kernel
theorem dX12_charges_104 : decode cX12_charges 104 = .ok (.ifCond .ne 7, 3) := by decide +kernel
theorem dX12_charges_107 : decode cX12_charges 107 = .ok (.iconst 0, 1) := by decide +kernel
theorem dX12_charges_108 : decode cX12_charges 108 = .ok (.goto 18, 3) := by decide +kernel
theorem dX12_charges_111 : decode cX12_charges 111 = .ok (.aload_n 0, 1) := by decide +kernel
theorem dX12_charges_112 : decode cX12_charges 112 = .ok (.getfield 51, 3) := by decide +kernel
theorem dX12_charges_115 : decode cX12_charges 115 = .ok (.iload 6, 2) := by decide +kernel
theorem dX12_charges_117 : decode cX12_charges 117 = .ok (.baload, 1) := by decide +kernel
theorem dX12_charges_118 : decode cX12_charges 118 = .ok (.ifCond .eq 7, 3) := by decide +kernel
theorem dX12_charges_121 : decode cX12_charges 121 = .ok (.iconst 2, 1) := by decide +kernel
theorem dX12_charges_122 : decode cX12_charges 122 = .ok (.goto 4, 3) := by decide +kernel
theorem dX12_charges_125 : decode cX12_charges 125 = .ok (.iconst 1, 1) := by decide +kernel
theorem dX12_charges_126 : decode cX12_charges 126 = .ok (.iadd, 1) := by decide +kernel
theorem dX12_charges_127 : decode cX12_charges 127 = .ok (.istore 5, 2) := by decide +kernel
theorem dX12_charges_129 : decode cX12_charges 129 = .ok (.iinc 6 1, 3) := by decide +kernel
theorem dX12_charges_132 : decode cX12_charges 132 = .ok (.goto (-95), 3) := by decide +kernel
theorem dX12_charges_135 : decode cX12_charges 135 = .ok (.lload_n 3, 1) := by decide +kernel
theorem dX12_charges_136 : decode cX12_charges 136 = .ok (.ldc2_w 228, 3) := by decide +kernel
theorem dX12_charges_139 : decode cX12_charges 139 = .ok (.ladd, 1) := by decide +kernel
theorem dX12_charges_140 : decode cX12_charges 140 = .ok (.ldc2_w 230, 3) := by decide +kernel
theorem dX12_charges_143 : decode cX12_charges 143 = .ok (.ldiv, 1) := by decide +kernel
theorem dX12_charges_144 : decode cX12_charges 144 = .ok (.lstore 6, 2) := by decide +kernel
theorem dX12_charges_146 : decode cX12_charges 146 = .ok (.iload 5, 2) := by decide +kernel
theorem dX12_charges_148 : decode cX12_charges 148 = .ok (.ifCond .le 15, 3) := by decide +kernel
theorem dX12_charges_151 : decode cX12_charges 151 = .ok (.aload_n 0, 1) := by decide +kernel
theorem dX12_charges_152 : decode cX12_charges 152 = .ok (.iload_n 1, 1) := by decide +kernel
theorem dX12_charges_153 : decode cX12_charges 153 = .ok (.bipush 6, 2) := by decide +kernel
theorem dX12_charges_155 : decode cX12_charges 155 = .ok (.iload_n 2, 1) := by decide +kernel
theorem dX12_charges_156 : decode cX12_charges 156 = .ok (.iload 5, 2) := by decide +kernel
theorem dX12_charges_158 : decode cX12_charges 158 = .ok (.i2l, 1) := by decide +kernel
theorem dX12_charges_159 : decode cX12_charges 159 = .ok (.iconst (-1), 1) := by decide +kernel
theorem dX12_charges_160 : decode cX12_charges 160 = .ok (.invokevirtual 141, 3) := by decide +kernel
theorem dX12_charges_163 : decode cX12_charges 163 = .ok (.lload 6, 2) := by decide +kernel
theorem dX12_charges_165 : decode cX12_charges 165 = .ok (.lconst 0, 1) := by decide +kernel
theorem dX12_charges_166 : decode cX12_charges 166 = .ok (.lcmp, 1) := by decide +kernel
theorem dX12_charges_167 : decode cX12_charges 167 = .ok (.ifCond .le 14, 3) := by decide +kernel
theorem dX12_charges_170 : decode cX12_charges 170 = .ok (.aload_n 0, 1) := by decide +kernel
theorem dX12_charges_171 : decode cX12_charges 171 = .ok (.iload_n 1, 1) := by decide +kernel
theorem dX12_charges_172 : decode cX12_charges 172 = .ok (.bipush 6, 2) := by decide +kernel
theorem dX12_charges_174 : decode cX12_charges 174 = .ok (.iload_n 2, 1) := by decide +kernel
theorem dX12_charges_175 : decode cX12_charges 175 = .ok (.lload 6, 2) := by decide +kernel
theorem dX12_charges_177 : decode cX12_charges 177 = .ok (.iconst (-1), 1) := by decide +kernel
theorem dX12_charges_178 : decode cX12_charges 178 = .ok (.invokevirtual 141, 3) := by decide +kernel
theorem dX12_charges_181 : decode cX12_charges 181 = .ok (.return_, 1) := by decide +kernel
theorem dX12_endDay_0 : decode cX12_endDay 0 = .ok (.aload_n 0, 1) := by decide +kernel
theorem dX12_endDay_1 : decode cX12_endDay 1 = .ok (.aload_n 0, 1) := by decide +kernel
theorem dX12_endDay_2 : decode cX12_endDay 2 = .ok (.getfield 135, 3) := by decide +kernel
theorem dX12_endDay_5 : decode cX12_endDay 5 = .ok (.sipush 998, 3) := by decide +kernel
theorem dX12_endDay_8 : decode cX12_endDay 8 = .ok (.if_icmp .ge 7, 3) := by decide +kernel
theorem dX12_endDay_11 : decode cX12_endDay 11 = .ok (.iconst 1, 1) := by decide +kernel
theorem dX12_endDay_12 : decode cX12_endDay 12 = .ok (.goto 4, 3) := by decide +kernel
theorem dX12_endDay_15 : decode cX12_endDay 15 = .ok (.iconst 0, 1) := by decide +kernel
theorem dX12_endDay_16 : decode cX12_endDay 16 = .ok (.iconst 1, 1) := by decide +kernel
theorem dX12_endDay_17 : decode cX12_endDay 17 = .ok (.iconst 1, 1) := by decide +kernel
theorem dX12_endDay_18 : decode cX12_endDay 18 = .ok (.invokevirtual 197, 3) := by decide +kernel
theorem dX12_endDay_21 : decode cX12_endDay 21 = .ok (.ifCond .ne 5, 3) := by decide +kernel
theorem dX12_endDay_24 : decode cX12_endDay 24 = .ok (.iconst 0, 1) := by decide +kernel
theorem dX12_endDay_25 : decode cX12_endDay 25 = .ok (.ireturn, 1) := by decide +kernel
theorem dX12_endDay_26 : decode cX12_endDay 26 = .ok (.iconst 0, 1) := by decide +kernel
theorem dX12_endDay_27 : decode cX12_endDay 27 = .ok (.istore_n 1, 1) := by decide +kernel
theorem dX12_endDay_28 : decode cX12_endDay 28 = .ok (.iconst 0, 1) := by decide +kernel
theorem dX12_endDay_29 : decode cX12_endDay 29 = .ok (.istore_n 2, 1) := by decide +kernel
theorem dX12_endDay_30 : decode cX12_endDay 30 = .ok (.iload_n 2, 1) := by decide +kernel
theorem dX12_endDay_31 : decode cX12_endDay 31 = .ok (.iconst 3, 1) := by decide +kernel
theorem dX12_endDay_32 : decode cX12_endDay 32 = .ok (.if_icmp .ge 33, 3) := by decide +kernel
theorem dX12_endDay_35 : decode cX12_endDay 35 = .ok (.iload_n 1, 1) := by decide +kernel
theorem dX12_endDay_36 : decode cX12_endDay 36 = .ok (.aload_n 0, 1) := by decide +kernel
theorem dX12_endDay_37 : decode cX12_endDay 37 = .ok (.iload_n 2, 1) := by decide +kernel
theorem dX12_endDay_38 : decode cX12_endDay 38 = .ok (.aload_n 0, 1) := by decide +kernel
theorem dX12_endDay_39 : decode cX12_endDay 39 = .ok (.getfield 135, 3) := by decide +kernel
theorem dX12_endDay_42 : decode cX12_endDay 42 = .ok (.invokevirtual 138, 3) := by decide +kernel
theorem dX12_endDay_45 : decode cX12_endDay 45 = .ok (.ifCond .eq 11, 3) := by decide +kernel
theorem dX12_endDay_48 : decode cX12_endDay 48 = .ok (.aload_n 0, 1) := by decide +kernel
theorem dX12_endDay_49 : decode cX12_endDay 49 = .ok (.iload_n 2, 1) := by decide +kernel
theorem dX12_endDay_50 : decode cX12_endDay 50 = .ok (.invokevirtual 232, 3) := by decide +kernel
theorem dX12_endDay_53 : decode cX12_endDay 53 = .ok (.goto 4, 3) := by decide +kernel
theorem dX12_endDay_56 : decode cX12_endDay 56 = .ok (.iconst 0, 1) := by decide +kernel
theorem dX12_endDay_57 : decode cX12_endDay 57 = .ok (.iadd, 1) := by decide +kernel
theorem dX12_endDay_58 : decode cX12_endDay 58 = .ok (.istore_n 1, 1) := by decide +kernel
theorem dX12_endDay_59 : decode cX12_endDay 59 = .ok (.iinc 2 1, 3) := by decide +kernel
theorem dX12_endDay_62 : decode cX12_endDay 62 = .ok (.goto (-32), 3) := by decide +kernel
theorem dX12_endDay_65 : decode cX12_endDay 65 = .ok (.iconst 0, 1) := by decide +kernel
theorem dX12_endDay_66 : decode cX12_endDay 66 = .ok (.istore_n 2, 1) := by decide +kernel
theorem dX12_endDay_67 : decode cX12_endDay 67 = .ok (.iload_n 2, 1) := by decide +kernel
theorem dX12_endDay_68 : decode cX12_endDay 68 = .ok (.aload_n 0, 1) := by decide +kernel
theorem dX12_endDay_69 : decode cX12_endDay 69 = .ok (.getfield 114, 3) := by decide +kernel
theorem dX12_endDay_72 : decode cX12_endDay 72 = .ok (.if_icmp .ge 61, 3) := by decide +kernel
theorem dX12_endDay_75 : decode cX12_endDay 75 = .ok (.aload_n 0, 1) := by decide +kernel
theorem dX12_endDay_76 : decode cX12_endDay 76 = .ok (.getfield 60, 3) := by decide +kernel
theorem dX12_endDay_79 : decode cX12_endDay 79 = .ok (.iload_n 2, 1) := by decide +kernel
theorem dX12_endDay_80 : decode cX12_endDay 80 = .ok (.iaload, 1) := by decide +kernel
theorem dX12_endDay_81 : decode cX12_endDay 81 = .ok (.iconst 2, 1) := by decide +kernel
theorem dX12_endDay_82 : decode cX12_endDay 82 = .ok (.if_icmp .eq 13, 3) := by decide +kernel
theorem dX12_endDay_85 : decode cX12_endDay 85 = .ok (.aload_n 0, 1) := by decide +kernel
theorem dX12_endDay_86 : decode cX12_endDay 86 = .ok (.getfield 60, 3) := by decide +kernel
theorem dX12_endDay_89 : decode cX12_endDay 89 = .ok (.iload_n 2, 1) := by decide +kernel
theorem dX12_endDay_90 : decode cX12_endDay 90 = .ok (.iaload, 1) := by decide +kernel
theorem dX12_endDay_91 : decode cX12_endDay 91 = .ok (.iconst 3, 1) := by decide +kernel
theorem dX12_endDay_92 : decode cX12_endDay 92 = .ok (.if_icmp .ne 35, 3) := by decide +kernel
theorem dX12_endDay_95 : decode cX12_endDay 95 = .ok (.aload_n 0, 1) := by decide +kernel
theorem dX12_endDay_96 : decode cX12_endDay 96 = .ok (.getfield 57, 3) := by decide +kernel
theorem dX12_endDay_99 : decode cX12_endDay 99 = .ok (.iload_n 2, 1) := by decide +kernel
theorem dX12_endDay_100 : decode cX12_endDay 100 = .ok (.baload, 1) := by decide +kernel
theorem dX12_endDay_101 : decode cX12_endDay 101 = .ok (.ifCond .ne 26, 3) := by decide +kernel
theorem dX12_endDay_104 : decode cX12_endDay 104 = .ok (.aload_n 0, 1) := by decide +kernel
theorem dX12_endDay_105 : decode cX12_endDay 105 = .ok (.aload_n 0, 1) := by decide +kernel
theorem dX12_endDay_106 : decode cX12_endDay 106 = .ok (.getfield 39, 3) := by decide +kernel
theorem dX12_endDay_109 : decode cX12_endDay 109 = .ok (.iload_n 2, 1) := by decide +kernel
theorem dX12_endDay_110 : decode cX12_endDay 110 = .ok (.iaload, 1) := by decide +kernel
theorem dX12_endDay_111 : decode cX12_endDay 111 = .ok (.aload_n 0, 1) := by decide +kernel
theorem dX12_endDay_112 : decode cX12_endDay 112 = .ok (.getfield 135, 3) := by decide +kernel
theorem dX12_endDay_115 : decode cX12_endDay 115 = .ok (.invokevirtual 138, 3) := by decide +kernel
theorem dX12_endDay_118 : decode cX12_endDay 118 = .ok (.ifCond .eq 9, 3) := by decide +kernel
theorem dX12_endDay_121 : decode cX12_endDay 121 = .ok (.aload_n 0, 1) := by decide +kernel
theorem dX12_endDay_122 : decode cX12_endDay 122 = .ok (.iload_n 2, 1) := by decide +kernel
theorem dX12_endDay_123 : decode cX12_endDay 123 = .ok (.invokevirtual 220, 3) := by decide +kernel
theorem dX12_endDay_126 : decode cX12_endDay 126 = .ok (.istore_n 3, 1) := by decide +kernel
theorem dX12_endDay_127 : decode cX12_endDay 127 = .ok (.iinc 2 1, 3) := by decide +kernel
theorem dX12_endDay_130 : decode cX12_endDay 130 = .ok (.goto (-63), 3) := by decide +kernel
theorem dX12_endDay_133 : decode cX12_endDay 133 = .ok (.iconst 0, 1) := by decide +kernel
theorem dX12_endDay_134 : decode cX12_endDay 134 = .ok (.istore_n 2, 1) := by decide +kernel
theorem dX12_endDay_135 : decode cX12_endDay 135 = .ok (.iload_n 2, 1) := by decide +kernel
theorem dX12_endDay_136 : decode cX12_endDay 136 = .ok (.bipush 18, 2) := by decide +kernel
theorem dX12_endDay_138 : decode cX12_endDay 138 = .ok (.if_icmp .ge 19, 3) := by decide +kernel
theorem dX12_endDay_141 : decode cX12_endDay 141 = .ok (.aload_n 0, 1) := by decide +kernel
theorem dX12_endDay_142 : decode cX12_endDay 142 = .ok (.iload_n 2, 1) := by decide +kernel
theorem dX12_endDay_143 : decode cX12_endDay 143 = .ok (.iconst 3, 1) := by decide +kernel
theorem dX12_endDay_144 : decode cX12_endDay 144 = .ok (.idiv, 1) := by decide +kernel
theorem dX12_endDay_145 : decode cX12_endDay 145 = .ok (.iload_n 2, 1) := by decide +kernel
theorem dX12_endDay_146 : decode cX12_endDay 146 = .ok (.iconst 3, 1) := by decide +kernel
theorem dX12_endDay_147 : decode cX12_endDay 147 = .ok (.irem, 1) := by decide +kernel
theorem dX12_endDay_148 : decode cX12_endDay 148 = .ok (.invokevirtual 235, 3) := by decide +kernel
theorem dX12_endDay_151 : decode cX12_endDay 151 = .ok (.iinc 2 1, 3) := by decide +kernel
theorem dX12_endDay_154 : decode cX12_endDay 154 = .ok (.goto (-19), 3) := by decide +kernel
theorem dX12_endDay_157 : decode cX12_endDay 157 = .ok (.aload_n 0, 1) := by decide +kernel
theorem dX12_endDay_158 : decode cX12_endDay 158 = .ok (.dup, 1) := by decide +kernel
theorem dX12_endDay_159 : decode cX12_endDay 159 = .ok (.getfield 135, 3) := by decide +kernel
theorem dX12_endDay_162 : decode cX12_endDay 162 = .ok (.iconst 1, 1) := by decide +kernel
theorem dX12_endDay_163 : decode cX12_endDay 163 = .ok (.iadd, 1) := by decide +kernel
theorem dX12_endDay_164 : decode cX12_endDay 164 = .ok (.putfield 135, 3) := by decide +kernel
theorem dX12_endDay_167 : decode cX12_endDay 167 = .ok (.iconst 0, 1) := by decide +kernel
theorem dX12_endDay_168 : decode cX12_endDay 168 = .ok (.istore_n 2, 1) := by decide +kernel
theorem dX12_endDay_169 : decode cX12_endDay 169 = .ok (.iload_n 2, 1) := by decide +kernel
theorem dX12_endDay_170 : decode cX12_endDay 170 = .ok (.bipush 108, 2) := by decide +kernel
theorem dX12_endDay_172 : decode cX12_endDay 172 = .ok (.if_icmp .ge 16, 3) := by decide +kernel
theorem dX12_endDay_175 : decode cX12_endDay 175 = .ok (.aload_n 0, 1) := by decide +kernel
theorem dX12_endDay_176 : decode cX12_endDay 176 = .ok (.getfield 20, 3) := by decide +kernel
theorem dX12_endDay_179 : decode cX12_endDay 179 = .ok (.iload_n 2, 1) := by decide +kernel
theorem dX12_endDay_180 : decode cX12_endDay 180 = .ok (.lconst 0, 1) := by decide +kernel
theorem dX12_endDay_181 : decode cX12_endDay 181 = .ok (.lastore, 1) := by decide +kernel
theorem dX12_endDay_182 : decode cX12_endDay 182 = .ok (.iinc 2 1, 3) := by decide +kernel
theorem dX12_endDay_185 : decode cX12_endDay 185 = .ok (.goto (-16), 3) := by decide +kernel
theorem dX12_endDay_188 : decode cX12_endDay 188 = .ok (.iconst 0, 1) := by decide +kernel
theorem dX12_endDay_189 : decode cX12_endDay 189 = .ok (.istore_n 2, 1) := by decide +kernel
theorem dX12_endDay_190 : decode cX12_endDay 190 = .ok (.iload_n 2, 1) := by decide +kernel
theorem dX12_endDay_191 : decode cX12_endDay 191 = .ok (.aload_n 0, 1) := by decide +kernel
theorem dX12_endDay_192 : decode cX12_endDay 192 = .ok (.getfield 114, 3) := by decide +kernel
theorem dX12_endDay_195 : decode cX12_endDay 195 = .ok (.if_icmp .ge 53, 3) := by decide +kernel
theorem dX12_endDay_198 : decode cX12_endDay 198 = .ok (.aload_n 0, 1) := by decide +kernel
theorem dX12_endDay_199 : decode cX12_endDay 199 = .ok (.getfield 60, 3) := by decide +kernel
theorem dX12_endDay_202 : decode cX12_endDay 202 = .ok (.iload_n 2, 1) := by decide +kernel
theorem dX12_endDay_203 : decode cX12_endDay 203 = .ok (.iaload, 1) := by decide +kernel
theorem dX12_endDay_204 : decode cX12_endDay 204 = .ok (.ifCond .ne 38, 3) := by decide +kernel
theorem dX12_endDay_207 : decode cX12_endDay 207 = .ok (.aload_n 0, 1) := by decide +kernel
theorem dX12_endDay_208 : decode cX12_endDay 208 = .ok (.getfield 54, 3) := by decide +kernel
theorem dX12_endDay_211 : decode cX12_endDay 211 = .ok (.iload_n 2, 1) := by decide +kernel
theorem dX12_endDay_212 : decode cX12_endDay 212 = .ok (.iaload, 1) := by decide +kernel
theorem dX12_endDay_213 : decode cX12_endDay 213 = .ok (.aload_n 0, 1) := by decide +kernel
theorem dX12_endDay_214 : decode cX12_endDay 214 = .ok (.getfield 135, 3) := by decide +kernel
theorem dX12_endDay_217 : decode cX12_endDay 217 = .ok (.if_icmp .gt 25, 3) := by decide +kernel
theorem dX12_endDay_220 : decode cX12_endDay 220 = .ok (.aload_n 0, 1) := by decide +kernel
theorem dX12_endDay_221 : decode cX12_endDay 221 = .ok (.aload_n 0, 1) := by decide +kernel
theorem dX12_endDay_222 : decode cX12_endDay 222 = .ok (.getfield 39, 3) := by decide +kernel
theorem dX12_endDay_225 : decode cX12_endDay 225 = .ok (.iload_n 2, 1) := by decide +kernel
theorem dX12_endDay_226 : decode cX12_endDay 226 = .ok (.iaload, 1) := by decide +kernel
theorem dX12_endDay_227 : decode cX12_endDay 227 = .ok (.aload_n 0, 1) := by decide +kernel
theorem dX12_endDay_228 : decode cX12_endDay 228 = .ok (.getfield 135, 3) := by decide +kernel
theorem dX12_endDay_231 : decode cX12_endDay 231 = .ok (.invokevirtual 138, 3) := by decide +kernel
theorem dX12_endDay_234 : decode cX12_endDay 234 = .ok (.ifCond .eq 8, 3) := by decide +kernel
theorem dX12_endDay_237 : decode cX12_endDay 237 = .ok (.aload_n 0, 1) := by decide +kernel
theorem dX12_endDay_238 : decode cX12_endDay 238 = .ok (.iload_n 2, 1) := by decide +kernel
theorem dX12_endDay_239 : decode cX12_endDay 239 = .ok (.invokevirtual 179, 3) := by decide +kernel
theorem dX12_endDay_242 : decode cX12_endDay 242 = .ok (.iinc 2 1, 3) := by decide +kernel
theorem dX12_endDay_245 : decode cX12_endDay 245 = .ok (.goto (-55), 3) := by decide +kernel
theorem dX12_endDay_248 : decode cX12_endDay 248 = .ok (.iload_n 1, 1) := by decide +kernel
theorem dX12_endDay_249 : decode cX12_endDay 249 = .ok (.aload_n 0, 1) := by decide +kernel
theorem dX12_endDay_250 : decode cX12_endDay 250 = .ok (.invokevirtual 208, 3) := by decide +kernel
theorem dX12_endDay_253 : decode cX12_endDay 253 = .ok (.iadd, 1) := by decide +kernel
theorem dX12_endDay_254 : decode cX12_endDay 254 = .ok (.ireturn, 1) := by decide +kernel
theorem dX12_today_0 : decode cX12_today 0 = .ok (.aload_n 0, 1) := by decide +kernel
theorem dX12_today_1 : decode cX12_today 1 = .ok (.iconst 0, 1) := by decide +kernel
theorem dX12_today_2 : decode cX12_today 2 = .ok (.putfield 106, 3) := by decide +kernel
theorem dX12_today_5 : decode cX12_today 5 = .ok (.aload_n 0, 1) := by decide +kernel
theorem dX12_today_6 : decode cX12_today 6 = .ok (.getfield 135, 3) := by decide +kernel
theorem dX12_today_9 : decode cX12_today 9 = .ok (.ireturn, 1) := by decide +kernel
theorem dX12_isAccount_0 : decode cX12_isAccount 0 = .ok (.iload_n 0, 1) := by decide +kernel
theorem dX12_isAccount_1 : decode cX12_isAccount 1 = .ok (.iconst 0, 1) := by decide +kernel
theorem dX12_isAccount_2 : decode cX12_isAccount 2 = .ok (.bipush 6, 2) := by decide +kernel
theorem dX12_isAccount_4 : decode cX12_isAccount 4 = .ok (.invokestatic 110, 3) := by decide +kernel
theorem dX12_isAccount_7 : decode cX12_isAccount 7 = .ok (.ireturn, 1) := by decide +kernel
theorem dX12_account_0 : decode cX12_account 0 = .ok (.aload_n 0, 1) := by decide +kernel
theorem dX12_account_1 : decode cX12_account 1 = .ok (.iload_n 1, 1) := by decide +kernel
theorem dX12_account_2 : decode cX12_account 2 = .ok (.invokestatic 239, 3) := by decide +kernel
theorem dX12_account_5 : decode cX12_account 5 = .ok (.ifCond .eq 14, 3) := by decide +kernel
theorem dX12_account_8 : decode cX12_account 8 = .ok (.iload_n 2, 1) := by decide +kernel
theorem dX12_account_9 : decode cX12_account 9 = .ok (.invokestatic 186, 3) := by decide +kernel
theorem dX12_account_12 : decode cX12_account 12 = .ok (.ifCond .eq 7, 3) := by decide +kernel
theorem dX12_account_15 : decode cX12_account 15 = .ok (.iconst 1, 1) := by decide +kernel
theorem dX12_account_16 : decode cX12_account 16 = .ok (.goto 4, 3) := by decide +kernel
theorem dX12_account_19 : decode cX12_account 19 = .ok (.iconst 0, 1) := by decide +kernel
theorem dX12_account_20 : decode cX12_account 20 = .ok (.iconst 1, 1) := by decide +kernel
theorem dX12_account_21 : decode cX12_account 21 = .ok (.iconst 1, 1) := by decide +kernel
theorem dX12_account_22 : decode cX12_account 22 = .ok (.invokevirtual 197, 3) := by decide +kernel
theorem dX12_account_25 : decode cX12_account 25 = .ok (.ifCond .eq 16, 3) := by decide +kernel
theorem dX12_account_28 : decode cX12_account 28 = .ok (.aload_n 0, 1) := by decide +kernel
theorem dX12_account_29 : decode cX12_account 29 = .ok (.getfield 7, 3) := by decide +kernel
theorem dX12_account_32 : decode cX12_account 32 = .ok (.iload_n 1, 1) := by decide +kernel
theorem dX12_account_33 : decode cX12_account 33 = .ok (.iload_n 2, 1) := by decide +kernel
theorem dX12_account_34 : decode cX12_account 34 = .ok (.invokestatic 120, 3) := by decide +kernel
theorem dX12_account_37 : decode cX12_account 37 = .ok (.laload, 1) := by decide +kernel
theorem dX12_account_38 : decode cX12_account 38 = .ok (.goto 4, 3) := by decide +kernel
theorem dX12_account_41 : decode cX12_account 41 = .ok (.lconst 0, 1) := by decide +kernel
theorem dX12_account_42 : decode cX12_account 42 = .ok (.lreturn, 1) := by decide +kernel
theorem dX12_accountAnew_0 : decode cX12_accountAnew 0 = .ok (.aload_n 0, 1) := by decide +kernel
theorem dX12_accountAnew_1 : decode cX12_accountAnew 1 = .ok (.iload_n 1, 1) := by decide +kernel
theorem dX12_accountAnew_2 : decode cX12_accountAnew 2 = .ok (.invokestatic 239, 3) := by decide +kernel
theorem dX12_accountAnew_5 : decode cX12_accountAnew 5 = .ok (.ifCond .eq 14, 3) := by decide +kernel
theorem dX12_accountAnew_8 : decode cX12_accountAnew 8 = .ok (.iload_n 2, 1) := by decide +kernel
theorem dX12_accountAnew_9 : decode cX12_accountAnew 9 = .ok (.invokestatic 186, 3) := by decide +kernel
theorem dX12_accountAnew_12 : decode cX12_accountAnew 12 = .ok (.ifCond .eq 7, 3) := by decide +kernel
theorem dX12_accountAnew_15 : decode cX12_accountAnew 15 = .ok (.iconst 1, 1) := by decide +kernel
theorem dX12_accountAnew_16 : decode cX12_accountAnew 16 = .ok (.goto 4, 3) := by decide +kernel
theorem dX12_accountAnew_19 : decode cX12_accountAnew 19 = .ok (.iconst 0, 1) := by decide +kernel
theorem dX12_accountAnew_20 : decode cX12_accountAnew 20 = .ok (.iconst 1, 1) := by decide +kernel
theorem dX12_accountAnew_21 : decode cX12_accountAnew 21 = .ok (.iconst 1, 1) := by decide +kernel
theorem dX12_accountAnew_22 : decode cX12_accountAnew 22 = .ok (.invokevirtual 197, 3) := by decide +kernel
theorem dX12_accountAnew_25 : decode cX12_accountAnew 25 = .ok (.ifCond .ne 5, 3) := by decide +kernel
theorem dX12_accountAnew_28 : decode cX12_accountAnew 28 = .ok (.lconst 0, 1) := by decide +kernel
theorem dX12_accountAnew_29 : decode cX12_accountAnew 29 = .ok (.lreturn, 1) := by decide +kernel
theorem dX12_accountAnew_30 : decode cX12_accountAnew 30 = .ok (.lconst 0, 1) := by decide +kernel
theorem dX12_accountAnew_31 : decode cX12_accountAnew 31 = .ok (.lstore_n 3, 1) := by decide +kernel
theorem dX12_accountAnew_32 : decode cX12_accountAnew 32 = .ok (.iconst 0, 1) := by decide +kernel
theorem dX12_accountAnew_33 : decode cX12_accountAnew 33 = .ok (.istore 5, 2) := by decide +kernel
theorem dX12_accountAnew_35 : decode cX12_accountAnew 35 = .ok (.iload 5, 2) := by decide +kernel
theorem dX12_accountAnew_37 : decode cX12_accountAnew 37 = .ok (.aload_n 0, 1) := by decide +kernel
theorem dX12_accountAnew_38 : decode cX12_accountAnew 38 = .ok (.getfield 117, 3) := by decide +kernel
theorem dX12_accountAnew_41 : decode cX12_accountAnew 41 = .ok (.if_icmp .ge 111, 3) := by decide +kernel
theorem dX12_accountAnew_44 : decode cX12_accountAnew 44 = .ok (.aload_n 0, 1) := by decide +kernel
theorem dX12_accountAnew_45 : decode cX12_accountAnew 45 = .ok (.getfield 94, 3) := by decide +kernel
theorem dX12_accountAnew_48 : decode cX12_accountAnew 48 = .ok (.iconst 5, 1) := by decide +kernel
theorem dX12_accountAnew_49 : decode cX12_accountAnew 49 = .ok (.iload 5, 2) := by decide +kernel
theorem dX12_accountAnew_51 : decode cX12_accountAnew 51 = .ok (.imul, 1) := by decide +kernel
theorem dX12_accountAnew_52 : decode cX12_accountAnew 52 = .ok (.iconst 2, 1) := by decide +kernel
theorem dX12_accountAnew_53 : decode cX12_accountAnew 53 = .ok (.iadd, 1) := by decide +kernel
theorem dX12_accountAnew_54 : decode cX12_accountAnew 54 = .ok (.laload, 1) := by decide +kernel
theorem dX12_accountAnew_55 : decode cX12_accountAnew 55 = .ok (.iload_n 2, 1) := by decide +kernel
theorem dX12_accountAnew_56 : decode cX12_accountAnew 56 = .ok (.i2l, 1) := by decide +kernel
theorem dX12_accountAnew_57 : decode cX12_accountAnew 57 = .ok (.lcmp, 1) := by decide +kernel
theorem dX12_accountAnew_58 : decode cX12_accountAnew 58 = .ok (.ifCond .ne 7, 3) := by decide +kernel
theorem dX12_accountAnew_61 : decode cX12_accountAnew 61 = .ok (.iconst 1, 1) := by decide +kernel
theorem dX12_accountAnew_62 : decode cX12_accountAnew 62 = .ok (.goto 4, 3) := by decide +kernel
theorem dX12_accountAnew_65 : decode cX12_accountAnew 65 = .ok (.iconst 0, 1) := by decide +kernel
theorem dX12_accountAnew_66 : decode cX12_accountAnew 66 = .ok (.istore 6, 2) := by decide +kernel
theorem dX12_accountAnew_68 : decode cX12_accountAnew 68 = .ok (.lload_n 3, 1) := by decide +kernel
theorem dX12_accountAnew_69 : decode cX12_accountAnew 69 = .ok (.iload 6, 2) := by decide +kernel
theorem dX12_accountAnew_71 : decode cX12_accountAnew 71 = .ok (.ifCond .eq 32, 3) := by decide +kernel
theorem dX12_accountAnew_74 : decode cX12_accountAnew 74 = .ok (.aload_n 0, 1) := by decide +kernel
theorem dX12_accountAnew_75 : decode cX12_accountAnew 75 = .ok (.getfield 94, 3) := by decide +kernel
theorem dX12_accountAnew_78 : decode cX12_accountAnew 78 = .ok (.iconst 5, 1) := by decide +kernel
theorem dX12_accountAnew_79 : decode cX12_accountAnew 79 = .ok (.iload 5, 2) := by decide +kernel
theorem dX12_accountAnew_81 : decode cX12_accountAnew 81 = .ok (.imul, 1) := by decide +kernel
theorem dX12_accountAnew_82 : decode cX12_accountAnew 82 = .ok (.laload, 1) := by decide +kernel
theorem dX12_accountAnew_83 : decode cX12_accountAnew 83 = .ok (.iload_n 1, 1) := by decide +kernel
theorem dX12_accountAnew_84 : decode cX12_accountAnew 84 = .ok (.i2l, 1) := by decide +kernel
theorem dX12_accountAnew_85 : decode cX12_accountAnew 85 = .ok (.lcmp, 1) := by decide +kernel
theorem dX12_accountAnew_86 : decode cX12_accountAnew 86 = .ok (.ifCond .ne 17, 3) := by decide +kernel
theorem dX12_accountAnew_89 : decode cX12_accountAnew 89 = .ok (.aload_n 0, 1) := by decide +kernel
theorem dX12_accountAnew_90 : decode cX12_accountAnew 90 = .ok (.getfield 94, 3) := by decide +kernel
theorem dX12_accountAnew_93 : decode cX12_accountAnew 93 = .ok (.iconst 5, 1) := by decide +kernel
theorem dX12_accountAnew_94 : decode cX12_accountAnew 94 = .ok (.iload 5, 2) := by decide +kernel
theorem dX12_accountAnew_96 : decode cX12_accountAnew 96 = .ok (.imul, 1) := by decide +kernel
theorem dX12_accountAnew_97 : decode cX12_accountAnew 97 = .ok (.iconst 3, 1) := by decide +kernel
theorem dX12_accountAnew_98 : decode cX12_accountAnew 98 = .ok (.iadd, 1) := by decide +kernel
theorem dX12_accountAnew_99 : decode cX12_accountAnew 99 = .ok (.laload, 1) := by decide +kernel
theorem dX12_accountAnew_100 : decode cX12_accountAnew 100 = .ok (.goto 4, 3) := by decide +kernel
theorem dX12_accountAnew_103 : decode cX12_accountAnew 103 = .ok (.lconst 0, 1) := by decide +kernel
theorem dX12_accountAnew_104 : decode cX12_accountAnew 104 = .ok (.lsub, 1) := by decide +kernel
theorem dX12_accountAnew_105 : decode cX12_accountAnew 105 = .ok (.lstore_n 3, 1) := by decide +kernel
theorem dX12_accountAnew_106 : decode cX12_accountAnew 106 = .ok (.lload_n 3, 1) := by decide +kernel
theorem dX12_accountAnew_107 : decode cX12_accountAnew 107 = .ok (.iload 6, 2) := by decide +kernel
theorem dX12_accountAnew_109 : decode cX12_accountAnew 109 = .ok (.ifCond .eq 34, 3) := by decide +kernel
theorem dX12_accountAnew_112 : decode cX12_accountAnew 112 = .ok (.aload_n 0, 1) := by decide +kernel
theorem dX12_accountAnew_113 : decode cX12_accountAnew 113 = .ok (.getfield 94, 3) := by decide +kernel
theorem dX12_accountAnew_116 : decode cX12_accountAnew 116 = .ok (.iconst 5, 1) := by decide +kernel
theorem dX12_accountAnew_117 : decode cX12_accountAnew 117 = .ok (.iload 5, 2) := by decide +kernel
theorem dX12_accountAnew_119 : decode cX12_accountAnew 119 = .ok (.imul, 1) := by decide +kernel
theorem dX12_accountAnew_120 : decode cX12_accountAnew 120 = .ok (.iconst 1, 1) := by decide +kernel
theorem dX12_accountAnew_121 : decode cX12_accountAnew 121 = .ok (.iadd, 1) := by decide +kernel
theorem dX12_accountAnew_122 : decode cX12_accountAnew 122 = .ok (.laload, 1) := by decide +kernel
theorem dX12_accountAnew_123 : decode cX12_accountAnew 123 = .ok (.iload_n 1, 1) := by decide +kernel
theorem dX12_accountAnew_124 : decode cX12_accountAnew 124 = .ok (.i2l, 1) := by decide +kernel
theorem dX12_accountAnew_125 : decode cX12_accountAnew 125 = .ok (.lcmp, 1) := by decide +kernel
theorem dX12_accountAnew_126 : decode cX12_accountAnew 126 = .ok (.ifCond .ne 17, 3) := by decide +kernel
theorem dX12_accountAnew_129 : decode cX12_accountAnew 129 = .ok (.aload_n 0, 1) := by decide +kernel
theorem dX12_accountAnew_130 : decode cX12_accountAnew 130 = .ok (.getfield 94, 3) := by decide +kernel
theorem dX12_accountAnew_133 : decode cX12_accountAnew 133 = .ok (.iconst 5, 1) := by decide +kernel
theorem dX12_accountAnew_134 : decode cX12_accountAnew 134 = .ok (.iload 5, 2) := by decide +kernel
theorem dX12_accountAnew_136 : decode cX12_accountAnew 136 = .ok (.imul, 1) := by decide +kernel
theorem dX12_accountAnew_137 : decode cX12_accountAnew 137 = .ok (.iconst 3, 1) := by decide +kernel
theorem dX12_accountAnew_138 : decode cX12_accountAnew 138 = .ok (.iadd, 1) := by decide +kernel
theorem dX12_accountAnew_139 : decode cX12_accountAnew 139 = .ok (.laload, 1) := by decide +kernel
theorem dX12_accountAnew_140 : decode cX12_accountAnew 140 = .ok (.goto 4, 3) := by decide +kernel
theorem dX12_accountAnew_143 : decode cX12_accountAnew 143 = .ok (.lconst 0, 1) := by decide +kernel
theorem dX12_accountAnew_144 : decode cX12_accountAnew 144 = .ok (.ladd, 1) := by decide +kernel
theorem dX12_accountAnew_145 : decode cX12_accountAnew 145 = .ok (.lstore_n 3, 1) := by decide +kernel
theorem dX12_accountAnew_146 : decode cX12_accountAnew 146 = .ok (.iinc 5 1, 3) := by decide +kernel
theorem dX12_accountAnew_149 : decode cX12_accountAnew 149 = .ok (.goto (-114), 3) := by decide +kernel
theorem dX12_accountAnew_152 : decode cX12_accountAnew 152 = .ok (.lload_n 3, 1) := by decide +kernel
theorem dX12_accountAnew_153 : decode cX12_accountAnew 153 = .ok (.lreturn, 1) := by decide +kernel
theorem dX12_paid_0 : decode cX12_paid 0 = .ok (.aload_n 0, 1) := by decide +kernel
theorem dX12_paid_1 : decode cX12_paid 1 = .ok (.iload_n 1, 1) := by decide +kernel
theorem dX12_paid_2 : decode cX12_paid 2 = .ok (.invokestatic 183, 3) := by decide +kernel
theorem dX12_paid_5 : decode cX12_paid 5 = .ok (.ifCond .eq 21, 3) := by decide +kernel
theorem dX12_paid_8 : decode cX12_paid 8 = .ok (.iload_n 2, 1) := by decide +kernel
theorem dX12_paid_9 : decode cX12_paid 9 = .ok (.invokestatic 183, 3) := by decide +kernel
theorem dX12_paid_12 : decode cX12_paid 12 = .ok (.ifCond .eq 14, 3) := by decide +kernel
theorem dX12_paid_15 : decode cX12_paid 15 = .ok (.iload_n 3, 1) := by decide +kernel
theorem dX12_paid_16 : decode cX12_paid 16 = .ok (.invokestatic 186, 3) := by decide +kernel
theorem dX12_paid_19 : decode cX12_paid 19 = .ok (.ifCond .eq 7, 3) := by decide +kernel
theorem dX12_paid_22 : decode cX12_paid 22 = .ok (.iconst 1, 1) := by decide +kernel
theorem dX12_paid_23 : decode cX12_paid 23 = .ok (.goto 4, 3) := by decide +kernel
theorem dX12_paid_26 : decode cX12_paid 26 = .ok (.iconst 0, 1) := by decide +kernel
theorem dX12_paid_27 : decode cX12_paid 27 = .ok (.iconst 1, 1) := by decide +kernel
theorem dX12_paid_28 : decode cX12_paid 28 = .ok (.iconst 1, 1) := by decide +kernel
theorem dX12_paid_29 : decode cX12_paid 29 = .ok (.invokevirtual 197, 3) := by decide +kernel
theorem dX12_paid_32 : decode cX12_paid 32 = .ok (.ifCond .eq 17, 3) := by decide +kernel
theorem dX12_paid_35 : decode cX12_paid 35 = .ok (.aload_n 0, 1) := by decide +kernel
theorem dX12_paid_36 : decode cX12_paid 36 = .ok (.getfield 20, 3) := by decide +kernel
theorem dX12_paid_39 : decode cX12_paid 39 = .ok (.iload_n 1, 1) := by decide +kernel
theorem dX12_paid_40 : decode cX12_paid 40 = .ok (.iload_n 2, 1) := by decide +kernel
theorem dX12_paid_41 : decode cX12_paid 41 = .ok (.iload_n 3, 1) := by decide +kernel
theorem dX12_paid_42 : decode cX12_paid 42 = .ok (.invokestatic 124, 3) := by decide +kernel
theorem dX12_paid_45 : decode cX12_paid 45 = .ok (.laload, 1) := by decide +kernel
theorem dX12_paid_46 : decode cX12_paid 46 = .ok (.goto 4, 3) := by decide +kernel
theorem dX12_paid_49 : decode cX12_paid 49 = .ok (.lconst 0, 1) := by decide +kernel
theorem dX12_paid_50 : decode cX12_paid 50 = .ok (.lreturn, 1) := by decide +kernel
theorem dX12_payments_0 : decode cX12_payments 0 = .ok (.aload_n 0, 1) := by decide +kernel
theorem dX12_payments_1 : decode cX12_payments 1 = .ok (.iconst 0, 1) := by decide +kernel
theorem dX12_payments_2 : decode cX12_payments 2 = .ok (.putfield 106, 3) := by decide +kernel
theorem dX12_payments_5 : decode cX12_payments 5 = .ok (.aload_n 0, 1) := by decide +kernel
theorem dX12_payments_6 : decode cX12_payments 6 = .ok (.getfield 114, 3) := by decide +kernel
theorem dX12_payments_9 : decode cX12_payments 9 = .ok (.ireturn, 1) := by decide +kernel
theorem dX12_stateOf_0 : decode cX12_stateOf 0 = .ok (.aload_n 0, 1) := by decide +kernel
theorem dX12_stateOf_1 : decode cX12_stateOf 1 = .ok (.aload_n 0, 1) := by decide +kernel
theorem dX12_stateOf_2 : decode cX12_stateOf 2 = .ok (.iload_n 1, 1) := by decide +kernel
theorem dX12_stateOf_3 : decode cX12_stateOf 3 = .ok (.invokevirtual 214, 3) := by decide +kernel
theorem dX12_stateOf_6 : decode cX12_stateOf 6 = .ok (.iconst 1, 1) := by decide +kernel
theorem dX12_stateOf_7 : decode cX12_stateOf 7 = .ok (.iconst 1, 1) := by decide +kernel
theorem dX12_stateOf_8 : decode cX12_stateOf 8 = .ok (.invokevirtual 197, 3) := by decide +kernel
theorem dX12_stateOf_11 : decode cX12_stateOf 11 = .ok (.ifCond .eq 12, 3) := by decide +kernel
theorem dX12_stateOf_14 : decode cX12_stateOf 14 = .ok (.aload_n 0, 1) := by decide +kernel
theorem dX12_stateOf_15 : decode cX12_stateOf 15 = .ok (.getfield 60, 3) := by decide +kernel
theorem dX12_stateOf_18 : decode cX12_stateOf 18 = .ok (.iload_n 1, 1) := by decide +kernel
theorem dX12_stateOf_19 : decode cX12_stateOf 19 = .ok (.iaload, 1) := by decide +kernel
theorem dX12_stateOf_20 : decode cX12_stateOf 20 = .ok (.goto 4, 3) := by decide +kernel
theorem dX12_stateOf_23 : decode cX12_stateOf 23 = .ok (.iconst 0, 1) := by decide +kernel
theorem dX12_stateOf_24 : decode cX12_stateOf 24 = .ok (.ireturn, 1) := by decide +kernel
theorem dX12_queueAt_0 : decode cX12_queueAt 0 = .ok (.aload_n 0, 1) := by decide +kernel
theorem dX12_queueAt_1 : decode cX12_queueAt 1 = .ok (.iload_n 1, 1) := by decide +kernel
theorem dX12_queueAt_2 : decode cX12_queueAt 2 = .ok (.invokestatic 183, 3) := by decide +kernel
theorem dX12_queueAt_5 : decode cX12_queueAt 5 = .ok (.ifCond .eq 18, 3) := by decide +kernel
theorem dX12_queueAt_8 : decode cX12_queueAt 8 = .ok (.iload_n 2, 1) := by decide +kernel
theorem dX12_queueAt_9 : decode cX12_queueAt 9 = .ok (.invokestatic 186, 3) := by decide +kernel
theorem dX12_queueAt_12 : decode cX12_queueAt 12 = .ok (.ifCond .eq 11, 3) := by decide +kernel
theorem dX12_queueAt_15 : decode cX12_queueAt 15 = .ok (.iload_n 3, 1) := by decide +kernel
theorem dX12_queueAt_16 : decode cX12_queueAt 16 = .ok (.ifCond .lt 7, 3) := by decide +kernel
theorem dX12_queueAt_19 : decode cX12_queueAt 19 = .ok (.iconst 1, 1) := by decide +kernel
theorem dX12_queueAt_20 : decode cX12_queueAt 20 = .ok (.goto 4, 3) := by decide +kernel
theorem dX12_queueAt_23 : decode cX12_queueAt 23 = .ok (.iconst 0, 1) := by decide +kernel
theorem dX12_queueAt_24 : decode cX12_queueAt 24 = .ok (.iconst 1, 1) := by decide +kernel
theorem dX12_queueAt_25 : decode cX12_queueAt 25 = .ok (.iconst 1, 1) := by decide +kernel
theorem dX12_queueAt_26 : decode cX12_queueAt 26 = .ok (.invokevirtual 197, 3) := by decide +kernel
theorem dX12_queueAt_29 : decode cX12_queueAt 29 = .ok (.ifCond .eq 13, 3) := by decide +kernel
theorem dX12_queueAt_32 : decode cX12_queueAt 32 = .ok (.aload_n 0, 1) := by decide +kernel
theorem dX12_queueAt_33 : decode cX12_queueAt 33 = .ok (.iload_n 1, 1) := by decide +kernel
theorem dX12_queueAt_34 : decode cX12_queueAt 34 = .ok (.iload_n 2, 1) := by decide +kernel
theorem dX12_queueAt_35 : decode cX12_queueAt 35 = .ok (.iload_n 3, 1) := by decide +kernel
theorem dX12_queueAt_36 : decode cX12_queueAt 36 = .ok (.invokevirtual 148, 3) := by decide +kernel
theorem dX12_queueAt_39 : decode cX12_queueAt 39 = .ok (.goto 4, 3) := by decide +kernel
theorem dX12_queueAt_42 : decode cX12_queueAt 42 = .ok (.iconst 0, 1) := by decide +kernel
theorem dX12_queueAt_43 : decode cX12_queueAt 43 = .ok (.ireturn, 1) := by decide +kernel
theorem dX12_entries_0 : decode cX12_entries 0 = .ok (.aload_n 0, 1) := by decide +kernel
theorem dX12_entries_1 : decode cX12_entries 1 = .ok (.iconst 0, 1) := by decide +kernel
theorem dX12_entries_2 : decode cX12_entries 2 = .ok (.putfield 106, 3) := by decide +kernel
theorem dX12_entries_5 : decode cX12_entries 5 = .ok (.aload_n 0, 1) := by decide +kernel
theorem dX12_entries_6 : decode cX12_entries 6 = .ok (.getfield 117, 3) := by decide +kernel
theorem dX12_entries_9 : decode cX12_entries 9 = .ok (.ireturn, 1) := by decide +kernel
theorem dX12_entryAt_0 : decode cX12_entryAt 0 = .ok (.aload_n 0, 1) := by decide +kernel
theorem dX12_entryAt_1 : decode cX12_entryAt 1 = .ok (.iload_n 1, 1) := by decide +kernel
theorem dX12_entryAt_2 : decode cX12_entryAt 2 = .ok (.iconst 0, 1) := by decide +kernel
theorem dX12_entryAt_3 : decode cX12_entryAt 3 = .ok (.aload_n 0, 1) := by decide +kernel
theorem dX12_entryAt_4 : decode cX12_entryAt 4 = .ok (.getfield 117, 3) := by decide +kernel
theorem dX12_entryAt_7 : decode cX12_entryAt 7 = .ok (.iconst 1, 1) := by decide +kernel
theorem dX12_entryAt_8 : decode cX12_entryAt 8 = .ok (.isub, 1) := by decide +kernel
theorem dX12_entryAt_9 : decode cX12_entryAt 9 = .ok (.invokestatic 110, 3) := by decide +kernel
theorem dX12_entryAt_12 : decode cX12_entryAt 12 = .ok (.iload_n 2, 1) := by decide +kernel
theorem dX12_entryAt_13 : decode cX12_entryAt 13 = .ok (.iconst 0, 1) := by decide +kernel
theorem dX12_entryAt_14 : decode cX12_entryAt 14 = .ok (.iconst 4, 1) := by decide +kernel
theorem dX12_entryAt_15 : decode cX12_entryAt 15 = .ok (.invokestatic 110, 3) := by decide +kernel
theorem dX12_entryAt_18 : decode cX12_entryAt 18 = .ok (.iconst 1, 1) := by decide +kernel
theorem dX12_entryAt_19 : decode cX12_entryAt 19 = .ok (.invokevirtual 197, 3) := by decide +kernel
theorem dX12_entryAt_22 : decode cX12_entryAt 22 = .ok (.ifCond .eq 16, 3) := by decide +kernel
theorem dX12_entryAt_25 : decode cX12_entryAt 25 = .ok (.aload_n 0, 1) := by decide +kernel
theorem dX12_entryAt_26 : decode cX12_entryAt 26 = .ok (.getfield 94, 3) := by decide +kernel
theorem dX12_entryAt_29 : decode cX12_entryAt 29 = .ok (.iconst 5, 1) := by decide +kernel
theorem dX12_entryAt_30 : decode cX12_entryAt 30 = .ok (.iload_n 1, 1) := by decide +kernel
theorem dX12_entryAt_31 : decode cX12_entryAt 31 = .ok (.imul, 1) := by decide +kernel
theorem dX12_entryAt_32 : decode cX12_entryAt 32 = .ok (.iload_n 2, 1) := by decide +kernel
theorem dX12_entryAt_33 : decode cX12_entryAt 33 = .ok (.iadd, 1) := by decide +kernel
theorem dX12_entryAt_34 : decode cX12_entryAt 34 = .ok (.laload, 1) := by decide +kernel
theorem dX12_entryAt_35 : decode cX12_entryAt 35 = .ok (.goto 4, 3) := by decide +kernel
theorem dX12_entryAt_38 : decode cX12_entryAt 38 = .ok (.lconst 0, 1) := by decide +kernel
theorem dX12_entryAt_39 : decode cX12_entryAt 39 = .ok (.lreturn, 1) := by decide +kernel
theorem dX12_adviceAt_0 : decode cX12_adviceAt 0 = .ok (.iload_n 2, 1) := by decide +kernel
theorem dX12_adviceAt_1 : decode cX12_adviceAt 1 = .ok (.istore_n 3, 1) := by decide +kernel
theorem dX12_adviceAt_2 : decode cX12_adviceAt 2 = .ok (.iconst 0, 1) := by decide +kernel
theorem dX12_adviceAt_3 : decode cX12_adviceAt 3 = .ok (.istore 4, 2) := by decide +kernel
theorem dX12_adviceAt_5 : decode cX12_adviceAt 5 = .ok (.iload 4, 2) := by decide +kernel
theorem dX12_adviceAt_7 : decode cX12_adviceAt 7 = .ok (.aload_n 0, 1) := by decide +kernel
theorem dX12_adviceAt_8 : decode cX12_adviceAt 8 = .ok (.getfield 145, 3) := by decide +kernel
theorem dX12_adviceAt_11 : decode cX12_adviceAt 11 = .ok (.if_icmp .ge 40, 3) := by decide +kernel
theorem dX12_adviceAt_14 : decode cX12_adviceAt 14 = .ok (.aload_n 0, 1) := by decide +kernel
theorem dX12_adviceAt_15 : decode cX12_adviceAt 15 = .ok (.getfield 36, 3) := by decide +kernel
theorem dX12_adviceAt_18 : decode cX12_adviceAt 18 = .ok (.aload_n 0, 1) := by decide +kernel
theorem dX12_adviceAt_19 : decode cX12_adviceAt 19 = .ok (.getfield 84, 3) := by decide +kernel
theorem dX12_adviceAt_22 : decode cX12_adviceAt 22 = .ok (.iload 4, 2) := by decide +kernel
theorem dX12_adviceAt_24 : decode cX12_adviceAt 24 = .ok (.iaload, 1) := by decide +kernel
theorem dX12_adviceAt_25 : decode cX12_adviceAt 25 = .ok (.iaload, 1) := by decide +kernel
theorem dX12_adviceAt_26 : decode cX12_adviceAt 26 = .ok (.iload_n 1, 1) := by decide +kernel
theorem dX12_adviceAt_27 : decode cX12_adviceAt 27 = .ok (.if_icmp .ne 18, 3) := by decide +kernel
theorem dX12_adviceAt_30 : decode cX12_adviceAt 30 = .ok (.iload_n 3, 1) := by decide +kernel
theorem dX12_adviceAt_31 : decode cX12_adviceAt 31 = .ok (.ifCond .ne 11, 3) := by decide +kernel
theorem dX12_adviceAt_34 : decode cX12_adviceAt 34 = .ok (.aload_n 0, 1) := by decide +kernel
theorem dX12_adviceAt_35 : decode cX12_adviceAt 35 = .ok (.getfield 84, 3) := by decide +kernel
theorem dX12_adviceAt_38 : decode cX12_adviceAt 38 = .ok (.iload 4, 2) := by decide +kernel
theorem dX12_adviceAt_40 : decode cX12_adviceAt 40 = .ok (.iaload, 1) := by decide +kernel
theorem dX12_adviceAt_41 : decode cX12_adviceAt 41 = .ok (.ireturn, 1) := by decide +kernel
theorem dX12_adviceAt_42 : decode cX12_adviceAt 42 = .ok (.iinc 3 (-1), 3) := by decide +kernel
theorem dX12_adviceAt_45 : decode cX12_adviceAt 45 = .ok (.iinc 4 1, 3) := by decide +kernel
theorem dX12_adviceAt_48 : decode cX12_adviceAt 48 = .ok (.goto (-43), 3) := by decide +kernel
theorem dX12_adviceAt_51 : decode cX12_adviceAt 51 = .ok (.iconst (-1), 1) := by decide +kernel
theorem dX12_adviceAt_52 : decode cX12_adviceAt 52 = .ok (.ireturn, 1) := by decide +kernel
theorem dX12_advice_0 : decode cX12_advice 0 = .ok (.aload_n 0, 1) := by decide +kernel
theorem dX12_advice_1 : decode cX12_advice 1 = .ok (.iload_n 1, 1) := by decide +kernel
theorem dX12_advice_2 : decode cX12_advice 2 = .ok (.invokestatic 183, 3) := by decide +kernel
theorem dX12_advice_5 : decode cX12_advice 5 = .ok (.iconst 1, 1) := by decide +kernel
theorem dX12_advice_6 : decode cX12_advice 6 = .ok (.iconst 1, 1) := by decide +kernel
theorem dX12_advice_7 : decode cX12_advice 7 = .ok (.invokevirtual 197, 3) := by decide +kernel
theorem dX12_advice_10 : decode cX12_advice 10 = .ok (.ifCond .ne 5, 3) := by decide +kernel
theorem dX12_advice_13 : decode cX12_advice 13 = .ok (.iconst 0, 1) := by decide +kernel
theorem dX12_advice_14 : decode cX12_advice 14 = .ok (.ireturn, 1) := by decide +kernel
theorem dX12_advice_15 : decode cX12_advice 15 = .ok (.aload_n 0, 1) := by decide +kernel
theorem dX12_advice_16 : decode cX12_advice 16 = .ok (.getfield 23, 3) := by decide +kernel
theorem dX12_advice_19 : decode cX12_advice 19 = .ok (.iload_n 1, 1) := by decide +kernel
theorem dX12_advice_20 : decode cX12_advice 20 = .ok (.baload, 1) := by decide +kernel
theorem dX12_advice_21 : decode cX12_advice 21 = .ok (.ifCond .eq 7, 3) := by decide +kernel
theorem dX12_advice_24 : decode cX12_advice 24 = .ok (.iconst (-1), 1) := by decide +kernel
theorem dX12_advice_25 : decode cX12_advice 25 = .ok (.goto 14, 3) := by decide +kernel
theorem dX12_advice_28 : decode cX12_advice 28 = .ok (.aload_n 0, 1) := by decide +kernel
theorem dX12_advice_29 : decode cX12_advice 29 = .ok (.iload_n 1, 1) := by decide +kernel
theorem dX12_advice_30 : decode cX12_advice 30 = .ok (.aload_n 0, 1) := by decide +kernel
theorem dX12_advice_31 : decode cX12_advice 31 = .ok (.getfield 87, 3) := by decide +kernel
theorem dX12_advice_34 : decode cX12_advice 34 = .ok (.iload_n 1, 1) := by decide +kernel
theorem dX12_advice_35 : decode cX12_advice 35 = .ok (.iaload, 1) := by decide +kernel
theorem dX12_advice_36 : decode cX12_advice 36 = .ok (.invokevirtual 242, 3) := by decide +kernel
theorem dX12_advice_39 : decode cX12_advice 39 = .ok (.istore_n 2, 1) := by decide +kernel
theorem dX12_advice_40 : decode cX12_advice 40 = .ok (.aload_n 0, 1) := by decide +kernel
theorem dX12_advice_41 : decode cX12_advice 41 = .ok (.getfield 87, 3) := by decide +kernel
theorem dX12_advice_44 : decode cX12_advice 44 = .ok (.iload_n 1, 1) := by decide +kernel
theorem dX12_advice_45 : decode cX12_advice 45 = .ok (.dup2, 1) := by decide +kernel
theorem dX12_advice_46 : decode cX12_advice 46 = .ok (.iaload, 1) := by decide +kernel
theorem dX12_advice_47 : decode cX12_advice 47 = .ok (.iload_n 2, 1) := by decide +kernel
theorem dX12_advice_48 : decode cX12_advice 48 = .ok (.iconst (-1), 1) := by decide +kernel
theorem dX12_advice_49 : decode cX12_advice 49 = .ok (.if_icmp .ne 7, 3) := by decide +kernel
theorem dX12_advice_52 : decode cX12_advice 52 = .ok (.iconst 0, 1) := by decide +kernel
theorem dX12_advice_53 : decode cX12_advice 53 = .ok (.goto 4, 3) := by decide +kernel
theorem dX12_advice_56 : decode cX12_advice 56 = .ok (.iconst 1, 1) := by decide +kernel
theorem dX12_advice_57 : decode cX12_advice 57 = .ok (.iadd, 1) := by decide +kernel
theorem dX12_advice_58 : decode cX12_advice 58 = .ok (.iastore, 1) := by decide +kernel
theorem dX12_advice_59 : decode cX12_advice 59 = .ok (.aload_n 0, 1) := by decide +kernel
theorem dX12_advice_60 : decode cX12_advice 60 = .ok (.getfield 90, 3) := by decide +kernel
theorem dX12_advice_63 : decode cX12_advice 63 = .ok (.iload_n 1, 1) := by decide +kernel
theorem dX12_advice_64 : decode cX12_advice 64 = .ok (.aload_n 0, 1) := by decide +kernel
theorem dX12_advice_65 : decode cX12_advice 65 = .ok (.getfield 87, 3) := by decide +kernel
theorem dX12_advice_68 : decode cX12_advice 68 = .ok (.iload_n 1, 1) := by decide +kernel
theorem dX12_advice_69 : decode cX12_advice 69 = .ok (.iaload, 1) := by decide +kernel
theorem dX12_advice_70 : decode cX12_advice 70 = .ok (.aload_n 0, 1) := by decide +kernel
theorem dX12_advice_71 : decode cX12_advice 71 = .ok (.getfield 90, 3) := by decide +kernel
theorem dX12_advice_74 : decode cX12_advice 74 = .ok (.iload_n 1, 1) := by decide +kernel
theorem dX12_advice_75 : decode cX12_advice 75 = .ok (.iaload, 1) := by decide +kernel
theorem dX12_advice_76 : decode cX12_advice 76 = .ok (.if_icmp .le 12, 3) := by decide +kernel
theorem dX12_advice_79 : decode cX12_advice 79 = .ok (.aload_n 0, 1) := by decide +kernel
theorem dX12_advice_80 : decode cX12_advice 80 = .ok (.getfield 87, 3) := by decide +kernel
theorem dX12_advice_83 : decode cX12_advice 83 = .ok (.iload_n 1, 1) := by decide +kernel
theorem dX12_advice_84 : decode cX12_advice 84 = .ok (.iaload, 1) := by decide +kernel
theorem dX12_advice_85 : decode cX12_advice 85 = .ok (.goto 9, 3) := by decide +kernel
theorem dX12_advice_88 : decode cX12_advice 88 = .ok (.aload_n 0, 1) := by decide +kernel
theorem dX12_advice_89 : decode cX12_advice 89 = .ok (.getfield 90, 3) := by decide +kernel
theorem dX12_advice_92 : decode cX12_advice 92 = .ok (.iload_n 1, 1) := by decide +kernel
theorem dX12_advice_93 : decode cX12_advice 93 = .ok (.iaload, 1) := by decide +kernel
theorem dX12_advice_94 : decode cX12_advice 94 = .ok (.iastore, 1) := by decide +kernel
theorem dX12_advice_95 : decode cX12_advice 95 = .ok (.iload_n 2, 1) := by decide +kernel
theorem dX12_advice_96 : decode cX12_advice 96 = .ok (.ireturn, 1) := by decide +kernel
theorem dX12_again_0 : decode cX12_again 0 = .ok (.iload_n 1, 1) := by decide +kernel
theorem dX12_again_1 : decode cX12_again 1 = .ok (.invokestatic 183, 3) := by decide +kernel
theorem dX12_again_4 : decode cX12_again 4 = .ok (.istore_n 3, 1) := by decide +kernel
theorem dX12_again_5 : decode cX12_again 5 = .ok (.aload_n 0, 1) := by decide +kernel
theorem dX12_again_6 : decode cX12_again 6 = .ok (.iload_n 3, 1) := by decide +kernel
theorem dX12_again_7 : decode cX12_again 7 = .ok (.iload_n 3, 1) := by decide +kernel
theorem dX12_again_8 : decode cX12_again 8 = .ok (.ifCond .eq 21, 3) := by decide +kernel
theorem dX12_again_11 : decode cX12_again 11 = .ok (.iload_n 2, 1) := by decide +kernel
theorem dX12_again_12 : decode cX12_again 12 = .ok (.iconst 0, 1) := by decide +kernel
theorem dX12_again_13 : decode cX12_again 13 = .ok (.aload_n 0, 1) := by decide +kernel
theorem dX12_again_14 : decode cX12_again 14 = .ok (.getfield 90, 3) := by decide +kernel
theorem dX12_again_17 : decode cX12_again 17 = .ok (.iload_n 1, 1) := by decide +kernel
theorem dX12_again_18 : decode cX12_again 18 = .ok (.iaload, 1) := by decide +kernel
theorem dX12_again_19 : decode cX12_again 19 = .ok (.invokestatic 110, 3) := by decide +kernel
theorem dX12_again_22 : decode cX12_again 22 = .ok (.ifCond .eq 7, 3) := by decide +kernel
theorem dX12_again_25 : decode cX12_again 25 = .ok (.iconst 1, 1) := by decide +kernel
theorem dX12_again_26 : decode cX12_again 26 = .ok (.goto 4, 3) := by decide +kernel
theorem dX12_again_29 : decode cX12_again 29 = .ok (.iconst 0, 1) := by decide +kernel
theorem dX12_again_30 : decode cX12_again 30 = .ok (.iconst 1, 1) := by decide +kernel
theorem dX12_again_31 : decode cX12_again 31 = .ok (.invokevirtual 197, 3) := by decide +kernel
theorem dX12_again_34 : decode cX12_again 34 = .ok (.ifCond .ne 5, 3) := by decide +kernel
theorem dX12_again_37 : decode cX12_again 37 = .ok (.iconst 0, 1) := by decide +kernel
theorem dX12_again_38 : decode cX12_again 38 = .ok (.ireturn, 1) := by decide +kernel
theorem dX12_again_39 : decode cX12_again 39 = .ok (.aload_n 0, 1) := by decide +kernel
theorem dX12_again_40 : decode cX12_again 40 = .ok (.getfield 87, 3) := by decide +kernel
theorem dX12_again_43 : decode cX12_again 43 = .ok (.iload_n 1, 1) := by decide +kernel
theorem dX12_again_44 : decode cX12_again 44 = .ok (.iload_n 2, 1) := by decide +kernel
theorem dX12_again_45 : decode cX12_again 45 = .ok (.iastore, 1) := by decide +kernel
theorem dX12_again_46 : decode cX12_again 46 = .ok (.iconst 0, 1) := by decide +kernel
theorem dX12_again_47 : decode cX12_again 47 = .ok (.istore 4, 2) := by decide +kernel
theorem dX12_again_49 : decode cX12_again 49 = .ok (.iconst 0, 1) := by decide +kernel
theorem dX12_again_50 : decode cX12_again 50 = .ok (.istore 5, 2) := by decide +kernel
theorem dX12_again_52 : decode cX12_again 52 = .ok (.iload 5, 2) := by decide +kernel
theorem dX12_again_54 : decode cX12_again 54 = .ok (.aload_n 0, 1) := by decide +kernel
theorem dX12_again_55 : decode cX12_again 55 = .ok (.getfield 145, 3) := by decide +kernel
theorem dX12_again_58 : decode cX12_again 58 = .ok (.if_icmp .ge 35, 3) := by decide +kernel
theorem dX12_again_61 : decode cX12_again 61 = .ok (.iload 4, 2) := by decide +kernel
theorem dX12_again_63 : decode cX12_again 63 = .ok (.aload_n 0, 1) := by decide +kernel
theorem dX12_again_64 : decode cX12_again 64 = .ok (.getfield 36, 3) := by decide +kernel
theorem dX12_again_67 : decode cX12_again 67 = .ok (.aload_n 0, 1) := by decide +kernel
theorem dX12_again_68 : decode cX12_again 68 = .ok (.getfield 84, 3) := by decide +kernel
theorem dX12_again_71 : decode cX12_again 71 = .ok (.iload 5, 2) := by decide +kernel
theorem dX12_again_73 : decode cX12_again 73 = .ok (.iaload, 1) := by decide +kernel
theorem dX12_again_74 : decode cX12_again 74 = .ok (.iaload, 1) := by decide +kernel
theorem dX12_again_75 : decode cX12_again 75 = .ok (.iload_n 1, 1) := by decide +kernel
theorem dX12_again_76 : decode cX12_again 76 = .ok (.if_icmp .ne 7, 3) := by decide +kernel
theorem dX12_again_79 : decode cX12_again 79 = .ok (.iconst 1, 1) := by decide +kernel
theorem dX12_again_80 : decode cX12_again 80 = .ok (.goto 4, 3) := by decide +kernel
theorem dX12_again_83 : decode cX12_again 83 = .ok (.iconst 0, 1) := by decide +kernel
theorem dX12_again_84 : decode cX12_again 84 = .ok (.iadd, 1) := by decide +kernel
theorem dX12_again_85 : decode cX12_again 85 = .ok (.istore 4, 2) := by decide +kernel
theorem dX12_again_87 : decode cX12_again 87 = .ok (.iinc 5 1, 3) := by decide +kernel
theorem dX12_again_90 : decode cX12_again 90 = .ok (.goto (-38), 3) := by decide +kernel
theorem dX12_again_93 : decode cX12_again 93 = .ok (.iload 4, 2) := by decide +kernel
theorem dX12_again_95 : decode cX12_again 95 = .ok (.iload_n 2, 1) := by decide +kernel
theorem dX12_again_96 : decode cX12_again 96 = .ok (.isub, 1) := by decide +kernel
theorem dX12_again_97 : decode cX12_again 97 = .ok (.ireturn, 1) := by decide +kernel
