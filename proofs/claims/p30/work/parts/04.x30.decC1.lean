theorem dX6_mayMove_51 : decode cX6_mayMove 51 = .ok (.iconst 1, 1) := by decide +kernel
theorem dX6_mayMove_52 : decode cX6_mayMove 52 = .ok (.goto 4, 3) := by decide +kernel
theorem dX6_mayMove_55 : decode cX6_mayMove 55 = .ok (.iconst 0, 1) := by decide +kernel
theorem dX6_mayMove_56 : decode cX6_mayMove 56 = .ok (.ireturn, 1) := by decide +kernel
theorem dX6_settleMost_0 : decode cX6_settleMost 0 = .ok (.aload_n 0, 1) := by decide +kernel
theorem dX6_settleMost_1 : decode cX6_settleMost 1 = .ok (.getfield 54, 3) := by decide +kernel
theorem dX6_settleMost_4 : decode cX6_settleMost 4 = .ok (.invokevirtual 141, 3) := by decide +kernel
theorem dX6_settleMost_7 : decode cX6_settleMost 7 = .ok (.iconst 0, 1) := by decide +kernel
theorem dX6_settleMost_8 : decode cX6_settleMost 8 = .ok (.istore_n 3, 1) := by decide +kernel
theorem dX6_settleMost_9 : decode cX6_settleMost 9 = .ok (.iload_n 3, 1) := by decide +kernel
theorem dX6_settleMost_10 : decode cX6_settleMost 10 = .ok (.aload_n 0, 1) := by decide +kernel
theorem dX6_settleMost_11 : decode cX6_settleMost 11 = .ok (.getfield 28, 3) := by decide +kernel
theorem dX6_settleMost_14 : decode cX6_settleMost 14 = .ok (.invokevirtual 121, 3) := by decide +kernel
theorem dX6_settleMost_17 : decode cX6_settleMost 17 = .ok (.if_icmp .ge 60, 3) := by decide +kernel
theorem dX6_settleMost_20 : decode cX6_settleMost 20 = .ok (.aload_n 0, 1) := by decide +kernel
theorem dX6_settleMost_21 : decode cX6_settleMost 21 = .ok (.getfield 28, 3) := by decide +kernel
theorem dX6_settleMost_24 : decode cX6_settleMost 24 = .ok (.iload_n 3, 1) := by decide +kernel
theorem dX6_settleMost_25 : decode cX6_settleMost 25 = .ok (.invokevirtual 125, 3) := by decide +kernel
theorem dX6_settleMost_28 : decode cX6_settleMost 28 = .ok (.astore 4, 2) := by decide +kernel
theorem dX6_settleMost_30 : decode cX6_settleMost 30 = .ok (.aload 4, 2) := by decide +kernel
theorem dX6_settleMost_32 : decode cX6_settleMost 32 = .ok (.ifnull 39, 3) := by decide +kernel
theorem dX6_settleMost_35 : decode cX6_settleMost 35 = .ok (.aload 4, 2) := by decide +kernel
theorem dX6_settleMost_37 : decode cX6_settleMost 37 = .ok (.iload_n 2, 1) := by decide +kernel
theorem dX6_settleMost_38 : decode cX6_settleMost 38 = .ok (.iload_n 1, 1) := by decide +kernel
theorem dX6_settleMost_39 : decode cX6_settleMost 39 = .ok (.invokevirtual 158, 3) := by decide +kernel
theorem dX6_settleMost_42 : decode cX6_settleMost 42 = .ok (.ifCond .eq 29, 3) := by decide +kernel
theorem dX6_settleMost_45 : decode cX6_settleMost 45 = .ok (.aload 4, 2) := by decide +kernel
theorem dX6_settleMost_47 : decode cX6_settleMost 47 = .ok (.getfield 147, 3) := by decide +kernel
theorem dX6_settleMost_50 : decode cX6_settleMost 50 = .ok (.ifnonnull 21, 3) := by decide +kernel
theorem dX6_settleMost_53 : decode cX6_settleMost 53 = .ok (.aload_n 0, 1) := by decide +kernel
theorem dX6_settleMost_54 : decode cX6_settleMost 54 = .ok (.aload 4, 2) := by decide +kernel
theorem dX6_settleMost_56 : decode cX6_settleMost 56 = .ok (.invokevirtual 137, 3) := by decide +kernel
theorem dX6_settleMost_59 : decode cX6_settleMost 59 = .ok (.ifCond .eq 12, 3) := by decide +kernel
theorem dX6_settleMost_62 : decode cX6_settleMost 62 = .ok (.aload_n 0, 1) := by decide +kernel
theorem dX6_settleMost_63 : decode cX6_settleMost 63 = .ok (.getfield 54, 3) := by decide +kernel
theorem dX6_settleMost_66 : decode cX6_settleMost 66 = .ok (.aload 4, 2) := by decide +kernel
theorem dX6_settleMost_68 : decode cX6_settleMost 68 = .ok (.invokevirtual 144, 3) := by decide +kernel
theorem dX6_settleMost_71 : decode cX6_settleMost 71 = .ok (.iinc 3 1, 3) := by decide +kernel
theorem dX6_settleMost_74 : decode cX6_settleMost 74 = .ok (.goto (-65), 3) := by decide +kernel
theorem dX6_settleMost_77 : decode cX6_settleMost 77 = .ok (.iconst 0, 1) := by decide +kernel
theorem dX6_settleMost_78 : decode cX6_settleMost 78 = .ok (.istore_n 3, 1) := by decide +kernel
theorem dX6_settleMost_79 : decode cX6_settleMost 79 = .ok (.iload_n 3, 1) := by decide +kernel
theorem dX6_settleMost_80 : decode cX6_settleMost 80 = .ok (.bipush 60, 2) := by decide +kernel
theorem dX6_settleMost_82 : decode cX6_settleMost 82 = .ok (.if_icmp .ge 43, 3) := by decide +kernel
theorem dX6_settleMost_85 : decode cX6_settleMost 85 = .ok (.aload_n 0, 1) := by decide +kernel
theorem dX6_settleMost_86 : decode cX6_settleMost 86 = .ok (.iload_n 1, 1) := by decide +kernel
theorem dX6_settleMost_87 : decode cX6_settleMost 87 = .ok (.iload_n 2, 1) := by decide +kernel
theorem dX6_settleMost_88 : decode cX6_settleMost 88 = .ok (.iconst 2, 1) := by decide +kernel
theorem dX6_settleMost_89 : decode cX6_settleMost 89 = .ok (.if_icmp .ne 7, 3) := by decide +kernel
theorem dX6_settleMost_92 : decode cX6_settleMost 92 = .ok (.iconst 1, 1) := by decide +kernel
theorem dX6_settleMost_93 : decode cX6_settleMost 93 = .ok (.goto 4, 3) := by decide +kernel
theorem dX6_settleMost_96 : decode cX6_settleMost 96 = .ok (.iconst 0, 1) := by decide +kernel
theorem dX6_settleMost_97 : decode cX6_settleMost 97 = .ok (.invokevirtual 162, 3) := by decide +kernel
theorem dX6_settleMost_100 : decode cX6_settleMost 100 = .ok (.astore 4, 2) := by decide +kernel
theorem dX6_settleMost_102 : decode cX6_settleMost 102 = .ok (.aload 4, 2) := by decide +kernel
theorem dX6_settleMost_104 : decode cX6_settleMost 104 = .ok (.ifnonnull 6, 3) := by decide +kernel
theorem dX6_settleMost_107 : decode cX6_settleMost 107 = .ok (.goto 18, 3) := by decide +kernel
theorem dX6_settleMost_110 : decode cX6_settleMost 110 = .ok (.aload_n 0, 1) := by decide +kernel
theorem dX6_settleMost_111 : decode cX6_settleMost 111 = .ok (.getfield 54, 3) := by decide +kernel
theorem dX6_settleMost_114 : decode cX6_settleMost 114 = .ok (.aload 4, 2) := by decide +kernel
theorem dX6_settleMost_116 : decode cX6_settleMost 116 = .ok (.invokevirtual 166, 3) := by decide +kernel
theorem dX6_settleMost_119 : decode cX6_settleMost 119 = .ok (.iinc 3 1, 3) := by decide +kernel
theorem dX6_settleMost_122 : decode cX6_settleMost 122 = .ok (.goto (-43), 3) := by decide +kernel
theorem dX6_settleMost_125 : decode cX6_settleMost 125 = .ok (.aload_n 0, 1) := by decide +kernel
theorem dX6_settleMost_126 : decode cX6_settleMost 126 = .ok (.invokevirtual 155, 3) := by decide +kernel
theorem dX6_settleMost_129 : decode cX6_settleMost 129 = .ok (.ireturn, 1) := by decide +kernel
theorem dX6_nextToTakeOut_0 : decode cX6_nextToTakeOut 0 = .ok (.aload_n 0, 1) := by decide +kernel
theorem dX6_nextToTakeOut_1 : decode cX6_nextToTakeOut 1 = .ok (.getfield 54, 3) := by decide +kernel
theorem dX6_nextToTakeOut_4 : decode cX6_nextToTakeOut 4 = .ok (.aload_n 0, 1) := by decide +kernel
theorem dX6_nextToTakeOut_5 : decode cX6_nextToTakeOut 5 = .ok (.getfield 21, 3) := by decide +kernel
theorem dX6_nextToTakeOut_8 : decode cX6_nextToTakeOut 8 = .ok (.iload_n 1, 1) := by decide +kernel
theorem dX6_nextToTakeOut_9 : decode cX6_nextToTakeOut 9 = .ok (.invokevirtual 169, 3) := by decide +kernel
theorem dX6_nextToTakeOut_12 : decode cX6_nextToTakeOut 12 = .ok (.istore_n 3, 1) := by decide +kernel
theorem dX6_nextToTakeOut_13 : decode cX6_nextToTakeOut 13 = .ok (.iload_n 3, 1) := by decide +kernel
theorem dX6_nextToTakeOut_14 : decode cX6_nextToTakeOut 14 = .ok (.iconst (-1), 1) := by decide +kernel
theorem dX6_nextToTakeOut_15 : decode cX6_nextToTakeOut 15 = .ok (.if_icmp .eq 11, 3) := by decide +kernel
theorem dX6_nextToTakeOut_18 : decode cX6_nextToTakeOut 18 = .ok (.aload_n 0, 1) := by decide +kernel
theorem dX6_nextToTakeOut_19 : decode cX6_nextToTakeOut 19 = .ok (.iload_n 3, 1) := by decide +kernel
theorem dX6_nextToTakeOut_20 : decode cX6_nextToTakeOut 20 = .ok (.iconst (-1), 1) := by decide +kernel
theorem dX6_nextToTakeOut_21 : decode cX6_nextToTakeOut 21 = .ok (.iload_n 2, 1) := by decide +kernel
theorem dX6_nextToTakeOut_22 : decode cX6_nextToTakeOut 22 = .ok (.invokevirtual 173, 3) := by decide +kernel
theorem dX6_nextToTakeOut_25 : decode cX6_nextToTakeOut 25 = .ok (.areturn, 1) := by decide +kernel
theorem dX6_nextToTakeOut_26 : decode cX6_nextToTakeOut 26 = .ok (.iconst 0, 1) := by decide +kernel
theorem dX6_nextToTakeOut_27 : decode cX6_nextToTakeOut 27 = .ok (.istore 4, 2) := by decide +kernel
theorem dX6_nextToTakeOut_29 : decode cX6_nextToTakeOut 29 = .ok (.iload 4, 2) := by decide +kernel
theorem dX6_nextToTakeOut_31 : decode cX6_nextToTakeOut 31 = .ok (.bipush 6, 2) := by decide +kernel
theorem dX6_nextToTakeOut_33 : decode cX6_nextToTakeOut 33 = .ok (.if_icmp .ge 54, 3) := by decide +kernel
theorem dX6_nextToTakeOut_36 : decode cX6_nextToTakeOut 36 = .ok (.iconst 0, 1) := by decide +kernel
theorem dX6_nextToTakeOut_37 : decode cX6_nextToTakeOut 37 = .ok (.istore 5, 2) := by decide +kernel
theorem dX6_nextToTakeOut_39 : decode cX6_nextToTakeOut 39 = .ok (.iload 5, 2) := by decide +kernel
theorem dX6_nextToTakeOut_41 : decode cX6_nextToTakeOut 41 = .ok (.bipush 6, 2) := by decide +kernel
theorem dX6_nextToTakeOut_43 : decode cX6_nextToTakeOut 43 = .ok (.if_icmp .ge 38, 3) := by decide +kernel
theorem dX6_nextToTakeOut_46 : decode cX6_nextToTakeOut 46 = .ok (.aload_n 0, 1) := by decide +kernel
theorem dX6_nextToTakeOut_47 : decode cX6_nextToTakeOut 47 = .ok (.getfield 54, 3) := by decide +kernel
theorem dX6_nextToTakeOut_50 : decode cX6_nextToTakeOut 50 = .ok (.aload_n 0, 1) := by decide +kernel
theorem dX6_nextToTakeOut_51 : decode cX6_nextToTakeOut 51 = .ok (.getfield 21, 3) := by decide +kernel
theorem dX6_nextToTakeOut_54 : decode cX6_nextToTakeOut 54 = .ok (.iload 4, 2) := by decide +kernel
theorem dX6_nextToTakeOut_56 : decode cX6_nextToTakeOut 56 = .ok (.iload 5, 2) := by decide +kernel
theorem dX6_nextToTakeOut_58 : decode cX6_nextToTakeOut 58 = .ok (.iload_n 1, 1) := by decide +kernel
theorem dX6_nextToTakeOut_59 : decode cX6_nextToTakeOut 59 = .ok (.invokevirtual 177, 3) := by decide +kernel
theorem dX6_nextToTakeOut_62 : decode cX6_nextToTakeOut 62 = .ok (.ifCond .eq 13, 3) := by decide +kernel
theorem dX6_nextToTakeOut_65 : decode cX6_nextToTakeOut 65 = .ok (.aload_n 0, 1) := by decide +kernel
theorem dX6_nextToTakeOut_66 : decode cX6_nextToTakeOut 66 = .ok (.iload 4, 2) := by decide +kernel
theorem dX6_nextToTakeOut_68 : decode cX6_nextToTakeOut 68 = .ok (.iload 5, 2) := by decide +kernel
theorem dX6_nextToTakeOut_70 : decode cX6_nextToTakeOut 70 = .ok (.iload_n 2, 1) := by decide +kernel
theorem dX6_nextToTakeOut_71 : decode cX6_nextToTakeOut 71 = .ok (.invokevirtual 173, 3) := by decide +kernel
theorem dX6_nextToTakeOut_74 : decode cX6_nextToTakeOut 74 = .ok (.areturn, 1) := by decide +kernel
theorem dX6_nextToTakeOut_75 : decode cX6_nextToTakeOut 75 = .ok (.iinc 5 1, 3) := by decide +kernel
theorem dX6_nextToTakeOut_78 : decode cX6_nextToTakeOut 78 = .ok (.goto (-39), 3) := by decide +kernel
theorem dX6_nextToTakeOut_81 : decode cX6_nextToTakeOut 81 = .ok (.iinc 4 1, 3) := by decide +kernel
theorem dX6_nextToTakeOut_84 : decode cX6_nextToTakeOut 84 = .ok (.goto (-55), 3) := by decide +kernel
theorem dX6_nextToTakeOut_87 : decode cX6_nextToTakeOut 87 = .ok (.aconst_null, 1) := by decide +kernel
theorem dX6_nextToTakeOut_88 : decode cX6_nextToTakeOut 88 = .ok (.areturn, 1) := by decide +kernel
theorem dX6_lastInBatch_0 : decode cX6_lastInBatch 0 = .ok (.aconst_null, 1) := by decide +kernel
theorem dX6_lastInBatch_1 : decode cX6_lastInBatch 1 = .ok (.astore 4, 2) := by decide +kernel
theorem dX6_lastInBatch_3 : decode cX6_lastInBatch 3 = .ok (.iconst 0, 1) := by decide +kernel
theorem dX6_lastInBatch_4 : decode cX6_lastInBatch 4 = .ok (.istore 5, 2) := by decide +kernel
theorem dX6_lastInBatch_6 : decode cX6_lastInBatch 6 = .ok (.iload 5, 2) := by decide +kernel
theorem dX6_lastInBatch_8 : decode cX6_lastInBatch 8 = .ok (.aload_n 0, 1) := by decide +kernel
theorem dX6_lastInBatch_9 : decode cX6_lastInBatch 9 = .ok (.getfield 28, 3) := by decide +kernel
theorem dX6_lastInBatch_12 : decode cX6_lastInBatch 12 = .ok (.invokevirtual 121, 3) := by decide +kernel
theorem dX6_lastInBatch_15 : decode cX6_lastInBatch 15 = .ok (.if_icmp .ge 89, 3) := by decide +kernel
theorem dX6_lastInBatch_18 : decode cX6_lastInBatch 18 = .ok (.aload_n 0, 1) := by decide +kernel
theorem dX6_lastInBatch_19 : decode cX6_lastInBatch 19 = .ok (.getfield 28, 3) := by decide +kernel
theorem dX6_lastInBatch_22 : decode cX6_lastInBatch 22 = .ok (.iload 5, 2) := by decide +kernel
theorem dX6_lastInBatch_24 : decode cX6_lastInBatch 24 = .ok (.invokevirtual 125, 3) := by decide +kernel
theorem dX6_lastInBatch_27 : decode cX6_lastInBatch 27 = .ok (.astore 6, 2) := by decide +kernel
theorem dX6_lastInBatch_29 : decode cX6_lastInBatch 29 = .ok (.aload 6, 2) := by decide +kernel
theorem dX6_lastInBatch_31 : decode cX6_lastInBatch 31 = .ok (.ifnull 67, 3) := by decide +kernel
theorem dX6_lastInBatch_34 : decode cX6_lastInBatch 34 = .ok (.aload_n 0, 1) := by decide +kernel
theorem dX6_lastInBatch_35 : decode cX6_lastInBatch 35 = .ok (.getfield 54, 3) := by decide +kernel
theorem dX6_lastInBatch_38 : decode cX6_lastInBatch 38 = .ok (.aload 6, 2) := by decide +kernel
theorem dX6_lastInBatch_40 : decode cX6_lastInBatch 40 = .ok (.invokevirtual 181, 3) := by decide +kernel
theorem dX6_lastInBatch_43 : decode cX6_lastInBatch 43 = .ok (.ifCond .eq 55, 3) := by decide +kernel
theorem dX6_lastInBatch_46 : decode cX6_lastInBatch 46 = .ok (.aload 6, 2) := by decide +kernel
theorem dX6_lastInBatch_48 : decode cX6_lastInBatch 48 = .ok (.getfield 101, 3) := by decide +kernel
theorem dX6_lastInBatch_51 : decode cX6_lastInBatch 51 = .ok (.getfield 88, 3) := by decide +kernel
theorem dX6_lastInBatch_54 : decode cX6_lastInBatch 54 = .ok (.iload_n 1, 1) := by decide +kernel
theorem dX6_lastInBatch_55 : decode cX6_lastInBatch 55 = .ok (.if_icmp .ne 43, 3) := by decide +kernel
theorem dX6_lastInBatch_58 : decode cX6_lastInBatch 58 = .ok (.iload_n 2, 1) := by decide +kernel
theorem dX6_lastInBatch_59 : decode cX6_lastInBatch 59 = .ok (.iconst (-1), 1) := by decide +kernel
theorem dX6_lastInBatch_60 : decode cX6_lastInBatch 60 = .ok (.if_icmp .eq 15, 3) := by decide +kernel
theorem dX6_lastInBatch_63 : decode cX6_lastInBatch 63 = .ok (.aload 6, 2) := by decide +kernel
theorem dX6_lastInBatch_65 : decode cX6_lastInBatch 65 = .ok (.getfield 101, 3) := by decide +kernel
theorem dX6_lastInBatch_68 : decode cX6_lastInBatch 68 = .ok (.getfield 85, 3) := by decide +kernel
theorem dX6_lastInBatch_71 : decode cX6_lastInBatch 71 = .ok (.iload_n 2, 1) := by decide +kernel
theorem dX6_lastInBatch_72 : decode cX6_lastInBatch 72 = .ok (.if_icmp .ne 26, 3) := by decide +kernel
theorem dX6_lastInBatch_75 : decode cX6_lastInBatch 75 = .ok (.aload 4, 2) := by decide +kernel
theorem dX6_lastInBatch_77 : decode cX6_lastInBatch 77 = .ok (.ifnull 17, 3) := by decide +kernel
theorem dX6_lastInBatch_80 : decode cX6_lastInBatch 80 = .ok (.iload_n 3, 1) := by decide +kernel
theorem dX6_lastInBatch_81 : decode cX6_lastInBatch 81 = .ok (.ifCond .eq 13, 3) := by decide +kernel
theorem dX6_lastInBatch_84 : decode cX6_lastInBatch 84 = .ok (.aload 6, 2) := by decide +kernel
theorem dX6_lastInBatch_86 : decode cX6_lastInBatch 86 = .ok (.aload 4, 2) := by decide +kernel
theorem dX6_lastInBatch_88 : decode cX6_lastInBatch 88 = .ok (.invokevirtual 184, 3) := by decide +kernel
theorem dX6_lastInBatch_91 : decode cX6_lastInBatch 91 = .ok (.ifCond .eq 7, 3) := by decide +kernel
theorem dX6_lastInBatch_94 : decode cX6_lastInBatch 94 = .ok (.aload 6, 2) := by decide +kernel
theorem dX6_lastInBatch_96 : decode cX6_lastInBatch 96 = .ok (.astore 4, 2) := by decide +kernel
theorem dX6_lastInBatch_98 : decode cX6_lastInBatch 98 = .ok (.iinc 5 1, 3) := by decide +kernel
theorem dX6_lastInBatch_101 : decode cX6_lastInBatch 101 = .ok (.goto (-95), 3) := by decide +kernel
theorem dX6_lastInBatch_104 : decode cX6_lastInBatch 104 = .ok (.aload 4, 2) := by decide +kernel
theorem dX6_lastInBatch_106 : decode cX6_lastInBatch 106 = .ok (.areturn, 1) := by decide +kernel
theorem dX6_settleBatch_0 : decode cX6_settleBatch 0 = .ok (.iconst 0, 1) := by decide +kernel
theorem dX6_settleBatch_1 : decode cX6_settleBatch 1 = .ok (.istore_n 1, 1) := by decide +kernel
theorem dX6_settleBatch_2 : decode cX6_settleBatch 2 = .ok (.iconst 0, 1) := by decide +kernel
theorem dX6_settleBatch_3 : decode cX6_settleBatch 3 = .ok (.istore_n 2, 1) := by decide +kernel
theorem dX6_settleBatch_4 : decode cX6_settleBatch 4 = .ok (.iload_n 2, 1) := by decide +kernel
theorem dX6_settleBatch_5 : decode cX6_settleBatch 5 = .ok (.aload_n 0, 1) := by decide +kernel
theorem dX6_settleBatch_6 : decode cX6_settleBatch 6 = .ok (.getfield 28, 3) := by decide +kernel
theorem dX6_settleBatch_9 : decode cX6_settleBatch 9 = .ok (.invokevirtual 121, 3) := by decide +kernel
theorem dX6_settleBatch_12 : decode cX6_settleBatch 12 = .ok (.if_icmp .ge 85, 3) := by decide +kernel
theorem dX6_settleBatch_15 : decode cX6_settleBatch 15 = .ok (.aload_n 0, 1) := by decide +kernel
theorem dX6_settleBatch_16 : decode cX6_settleBatch 16 = .ok (.getfield 28, 3) := by decide +kernel
theorem dX6_settleBatch_19 : decode cX6_settleBatch 19 = .ok (.iload_n 2, 1) := by decide +kernel
theorem dX6_settleBatch_20 : decode cX6_settleBatch 20 = .ok (.invokevirtual 125, 3) := by decide +kernel
theorem dX6_settleBatch_23 : decode cX6_settleBatch 23 = .ok (.astore_n 3, 1) := by decide +kernel
theorem dX6_settleBatch_24 : decode cX6_settleBatch 24 = .ok (.aload_n 3, 1) := by decide +kernel
theorem dX6_settleBatch_25 : decode cX6_settleBatch 25 = .ok (.ifnull 66, 3) := by decide +kernel
theorem dX6_settleBatch_28 : decode cX6_settleBatch 28 = .ok (.aload_n 0, 1) := by decide +kernel
theorem dX6_settleBatch_29 : decode cX6_settleBatch 29 = .ok (.getfield 54, 3) := by decide +kernel
theorem dX6_settleBatch_32 : decode cX6_settleBatch 32 = .ok (.aload_n 3, 1) := by decide +kernel
theorem dX6_settleBatch_33 : decode cX6_settleBatch 33 = .ok (.invokevirtual 181, 3) := by decide +kernel
theorem dX6_settleBatch_36 : decode cX6_settleBatch 36 = .ok (.ifCond .eq 55, 3) := by decide +kernel
theorem dX6_settleBatch_39 : decode cX6_settleBatch 39 = .ok (.aload_n 3, 1) := by decide +kernel
theorem dX6_settleBatch_40 : decode cX6_settleBatch 40 = .ok (.iconst 4, 1) := by decide +kernel
theorem dX6_settleBatch_41 : decode cX6_settleBatch 41 = .ok (.putfield 115, 3) := by decide +kernel
theorem dX6_settleBatch_44 : decode cX6_settleBatch 44 = .ok (.aload_n 3, 1) := by decide +kernel
theorem dX6_settleBatch_45 : decode cX6_settleBatch 45 = .ok (.aload_n 0, 1) := by decide +kernel
theorem dX6_settleBatch_46 : decode cX6_settleBatch 46 = .ok (.getfield 12, 3) := by decide +kernel
theorem dX6_settleBatch_49 : decode cX6_settleBatch 49 = .ok (.getfield 68, 3) := by decide +kernel
theorem dX6_settleBatch_52 : decode cX6_settleBatch 52 = .ok (.putfield 187, 3) := by decide +kernel
theorem dX6_settleBatch_55 : decode cX6_settleBatch 55 = .ok (.aload_n 0, 1) := by decide +kernel
theorem dX6_settleBatch_56 : decode cX6_settleBatch 56 = .ok (.getfield 21, 3) := by decide +kernel
theorem dX6_settleBatch_59 : decode cX6_settleBatch 59 = .ok (.aload_n 3, 1) := by decide +kernel
theorem dX6_settleBatch_60 : decode cX6_settleBatch 60 = .ok (.getfield 101, 3) := by decide +kernel
theorem dX6_settleBatch_63 : decode cX6_settleBatch 63 = .ok (.aload_n 3, 1) := by decide +kernel
theorem dX6_settleBatch_64 : decode cX6_settleBatch 64 = .ok (.getfield 80, 3) := by decide +kernel
theorem dX6_settleBatch_67 : decode cX6_settleBatch 67 = .ok (.invokevirtual 190, 3) := by decide +kernel
theorem dX6_settleBatch_70 : decode cX6_settleBatch 70 = .ok (.aload_n 0, 1) := by decide +kernel
theorem dX6_settleBatch_71 : decode cX6_settleBatch 71 = .ok (.getfield 35, 3) := by decide +kernel
theorem dX6_settleBatch_74 : decode cX6_settleBatch 74 = .ok (.aload_n 3, 1) := by decide +kernel
theorem dX6_settleBatch_75 : decode cX6_settleBatch 75 = .ok (.getfield 101, 3) := by decide +kernel
theorem dX6_settleBatch_78 : decode cX6_settleBatch 78 = .ok (.getfield 85, 3) := by decide +kernel
theorem dX6_settleBatch_81 : decode cX6_settleBatch 81 = .ok (.aload_n 3, 1) := by decide +kernel
theorem dX6_settleBatch_82 : decode cX6_settleBatch 82 = .ok (.getfield 80, 3) := by decide +kernel
theorem dX6_settleBatch_85 : decode cX6_settleBatch 85 = .ok (.invokevirtual 194, 3) := by decide +kernel
theorem dX6_settleBatch_88 : decode cX6_settleBatch 88 = .ok (.iinc 1 1, 3) := by decide +kernel
theorem dX6_settleBatch_91 : decode cX6_settleBatch 91 = .ok (.iinc 2 1, 3) := by decide +kernel
theorem dX6_settleBatch_94 : decode cX6_settleBatch 94 = .ok (.goto (-90), 3) := by decide +kernel
theorem dX6_settleBatch_97 : decode cX6_settleBatch 97 = .ok (.iload_n 1, 1) := by decide +kernel
theorem dX6_settleBatch_98 : decode cX6_settleBatch 98 = .ok (.ireturn, 1) := by decide +kernel
theorem dX6_closeDay_0 : decode cX6_closeDay 0 = .ok (.iconst 0, 1) := by decide +kernel
theorem dX6_closeDay_1 : decode cX6_closeDay 1 = .ok (.istore_n 1, 1) := by decide +kernel
theorem dX6_closeDay_2 : decode cX6_closeDay 2 = .ok (.iconst 0, 1) := by decide +kernel
theorem dX6_closeDay_3 : decode cX6_closeDay 3 = .ok (.istore_n 2, 1) := by decide +kernel
theorem dX6_closeDay_4 : decode cX6_closeDay 4 = .ok (.iload_n 2, 1) := by decide +kernel
theorem dX6_closeDay_5 : decode cX6_closeDay 5 = .ok (.iconst 3, 1) := by decide +kernel
theorem dX6_closeDay_6 : decode cX6_closeDay 6 = .ok (.if_icmp .ge 18, 3) := by decide +kernel
theorem dX6_closeDay_9 : decode cX6_closeDay 9 = .ok (.iload_n 1, 1) := by decide +kernel
theorem dX6_closeDay_10 : decode cX6_closeDay 10 = .ok (.aload_n 0, 1) := by decide +kernel
theorem dX6_closeDay_11 : decode cX6_closeDay 11 = .ok (.iload_n 2, 1) := by decide +kernel
theorem dX6_closeDay_12 : decode cX6_closeDay 12 = .ok (.iconst 3, 1) := by decide +kernel
theorem dX6_closeDay_13 : decode cX6_closeDay 13 = .ok (.invokevirtual 198, 3) := by decide +kernel
theorem dX6_closeDay_16 : decode cX6_closeDay 16 = .ok (.iadd, 1) := by decide +kernel
theorem dX6_closeDay_17 : decode cX6_closeDay 17 = .ok (.istore_n 1, 1) := by decide +kernel
theorem dX6_closeDay_18 : decode cX6_closeDay 18 = .ok (.iinc 2 1, 3) := by decide +kernel
theorem dX6_closeDay_21 : decode cX6_closeDay 21 = .ok (.goto (-17), 3) := by decide +kernel
theorem dX6_closeDay_24 : decode cX6_closeDay 24 = .ok (.aload_n 0, 1) := by decide +kernel
theorem dX6_closeDay_25 : decode cX6_closeDay 25 = .ok (.invokevirtual 201, 3) := by decide +kernel
theorem dX6_closeDay_28 : decode cX6_closeDay 28 = .ok (.aload_n 0, 1) := by decide +kernel
theorem dX6_closeDay_29 : decode cX6_closeDay 29 = .ok (.invokevirtual 204, 3) := by decide +kernel
theorem dX6_closeDay_32 : decode cX6_closeDay 32 = .ok (.aload_n 0, 1) := by decide +kernel
theorem dX6_closeDay_33 : decode cX6_closeDay 33 = .ok (.getfield 12, 3) := by decide +kernel
theorem dX6_closeDay_36 : decode cX6_closeDay 36 = .ok (.dup, 1) := by decide +kernel
theorem dX6_closeDay_37 : decode cX6_closeDay 37 = .ok (.getfield 68, 3) := by decide +kernel
theorem dX6_closeDay_40 : decode cX6_closeDay 40 = .ok (.iconst 1, 1) := by decide +kernel
theorem dX6_closeDay_41 : decode cX6_closeDay 41 = .ok (.iadd, 1) := by decide +kernel
theorem dX6_closeDay_42 : decode cX6_closeDay 42 = .ok (.putfield 68, 3) := by decide +kernel
theorem dX6_closeDay_45 : decode cX6_closeDay 45 = .ok (.aload_n 0, 1) := by decide +kernel
theorem dX6_closeDay_46 : decode cX6_closeDay 46 = .ok (.getfield 21, 3) := by decide +kernel
theorem dX6_closeDay_49 : decode cX6_closeDay 49 = .ok (.invokevirtual 207, 3) := by decide +kernel
theorem dX6_closeDay_52 : decode cX6_closeDay 52 = .ok (.aload_n 0, 1) := by decide +kernel
theorem dX6_closeDay_53 : decode cX6_closeDay 53 = .ok (.invokevirtual 210, 3) := by decide +kernel
theorem dX6_closeDay_56 : decode cX6_closeDay 56 = .ok (.iload_n 1, 1) := by decide +kernel
theorem dX6_closeDay_57 : decode cX6_closeDay 57 = .ok (.ireturn, 1) := by decide +kernel
theorem dX6_giveBackWhatMayNotStay_0 : decode cX6_giveBackWhatMayNotStay 0 = .ok (.iconst 0, 1) := by decide +kernel
theorem dX6_giveBackWhatMayNotStay_1 : decode cX6_giveBackWhatMayNotStay 1 = .ok (.istore_n 1, 1) := by decide +kernel
theorem dX6_giveBackWhatMayNotStay_2 : decode cX6_giveBackWhatMayNotStay 2 = .ok (.iload_n 1, 1) := by decide +kernel
theorem dX6_giveBackWhatMayNotStay_3 : decode cX6_giveBackWhatMayNotStay 3 = .ok (.aload_n 0, 1) := by decide +kernel
theorem dX6_giveBackWhatMayNotStay_4 : decode cX6_giveBackWhatMayNotStay 4 = .ok (.getfield 28, 3) := by decide +kernel
theorem dX6_giveBackWhatMayNotStay_7 : decode cX6_giveBackWhatMayNotStay 7 = .ok (.invokevirtual 121, 3) := by decide +kernel
theorem dX6_giveBackWhatMayNotStay_10 : decode cX6_giveBackWhatMayNotStay 10 = .ok (.if_icmp .ge 70, 3) := by decide +kernel
theorem dX6_giveBackWhatMayNotStay_13 : decode cX6_giveBackWhatMayNotStay 13 = .ok (.aload_n 0, 1) := by decide +kernel
theorem dX6_giveBackWhatMayNotStay_14 : decode cX6_giveBackWhatMayNotStay 14 = .ok (.getfield 28, 3) := by decide +kernel
theorem dX6_giveBackWhatMayNotStay_17 : decode cX6_giveBackWhatMayNotStay 17 = .ok (.iload_n 1, 1) := by decide +kernel
theorem dX6_giveBackWhatMayNotStay_18 : decode cX6_giveBackWhatMayNotStay 18 = .ok (.invokevirtual 125, 3) := by decide +kernel
theorem dX6_giveBackWhatMayNotStay_21 : decode cX6_giveBackWhatMayNotStay 21 = .ok (.astore_n 2, 1) := by decide +kernel
theorem dX6_giveBackWhatMayNotStay_22 : decode cX6_giveBackWhatMayNotStay 22 = .ok (.aload_n 2, 1) := by decide +kernel
theorem dX6_giveBackWhatMayNotStay_23 : decode cX6_giveBackWhatMayNotStay 23 = .ok (.ifnull 51, 3) := by decide +kernel
theorem dX6_giveBackWhatMayNotStay_26 : decode cX6_giveBackWhatMayNotStay 26 = .ok (.aload_n 2, 1) := by decide +kernel
theorem dX6_giveBackWhatMayNotStay_27 : decode cX6_giveBackWhatMayNotStay 27 = .ok (.getfield 101, 3) := by decide +kernel
theorem dX6_giveBackWhatMayNotStay_30 : decode cX6_giveBackWhatMayNotStay 30 = .ok (.getfield 213, 3) := by decide +kernel
theorem dX6_giveBackWhatMayNotStay_33 : decode cX6_giveBackWhatMayNotStay 33 = .ok (.ifCond .ne 41, 3) := by decide +kernel
theorem dX6_giveBackWhatMayNotStay_36 : decode cX6_giveBackWhatMayNotStay 36 = .ok (.aload_n 2, 1) := by decide +kernel
theorem dX6_giveBackWhatMayNotStay_37 : decode cX6_giveBackWhatMayNotStay 37 = .ok (.getfield 115, 3) := by decide +kernel
theorem dX6_giveBackWhatMayNotStay_40 : decode cX6_giveBackWhatMayNotStay 40 = .ok (.iconst 2, 1) := by decide +kernel
theorem dX6_giveBackWhatMayNotStay_41 : decode cX6_giveBackWhatMayNotStay 41 = .ok (.if_icmp .eq 11, 3) := by decide +kernel
theorem dX6_giveBackWhatMayNotStay_44 : decode cX6_giveBackWhatMayNotStay 44 = .ok (.aload_n 2, 1) := by decide +kernel
theorem dX6_giveBackWhatMayNotStay_45 : decode cX6_giveBackWhatMayNotStay 45 = .ok (.getfield 115, 3) := by decide +kernel
theorem dX6_giveBackWhatMayNotStay_48 : decode cX6_giveBackWhatMayNotStay 48 = .ok (.iconst 3, 1) := by decide +kernel
theorem dX6_giveBackWhatMayNotStay_49 : decode cX6_giveBackWhatMayNotStay 49 = .ok (.if_icmp .ne 25, 3) := by decide +kernel
theorem dX6_giveBackWhatMayNotStay_52 : decode cX6_giveBackWhatMayNotStay 52 = .ok (.aload_n 0, 1) := by decide +kernel
theorem dX6_giveBackWhatMayNotStay_53 : decode cX6_giveBackWhatMayNotStay 53 = .ok (.getfield 12, 3) := by decide +kernel
theorem dX6_giveBackWhatMayNotStay_56 : decode cX6_giveBackWhatMayNotStay 56 = .ok (.aload_n 2, 1) := by decide +kernel
theorem dX6_giveBackWhatMayNotStay_57 : decode cX6_giveBackWhatMayNotStay 57 = .ok (.getfield 101, 3) := by decide +kernel
theorem dX6_giveBackWhatMayNotStay_60 : decode cX6_giveBackWhatMayNotStay 60 = .ok (.getfield 69, 3) := by decide +kernel
theorem dX6_giveBackWhatMayNotStay_63 : decode cX6_giveBackWhatMayNotStay 63 = .ok (.invokevirtual 72, 3) := by decide +kernel
theorem dX6_giveBackWhatMayNotStay_66 : decode cX6_giveBackWhatMayNotStay 66 = .ok (.ifCond .eq 8, 3) := by decide +kernel
theorem dX6_giveBackWhatMayNotStay_69 : decode cX6_giveBackWhatMayNotStay 69 = .ok (.aload_n 2, 1) := by decide +kernel
theorem dX6_giveBackWhatMayNotStay_70 : decode cX6_giveBackWhatMayNotStay 70 = .ok (.invokevirtual 216, 3) := by decide +kernel
theorem dX6_giveBackWhatMayNotStay_73 : decode cX6_giveBackWhatMayNotStay 73 = .ok (.pop, 1) := by decide +kernel
theorem dX6_giveBackWhatMayNotStay_74 : decode cX6_giveBackWhatMayNotStay 74 = .ok (.iinc 1 1, 3) := by decide +kernel
theorem dX6_giveBackWhatMayNotStay_77 : decode cX6_giveBackWhatMayNotStay 77 = .ok (.goto (-75), 3) := by decide +kernel
theorem dX6_giveBackWhatMayNotStay_80 : decode cX6_giveBackWhatMayNotStay 80 = .ok (.return_, 1) := by decide +kernel
theorem dX6_chargeBanks_0 : decode cX6_chargeBanks 0 = .ok (.iconst 0, 1) := by decide +kernel
theorem dX6_chargeBanks_1 : decode cX6_chargeBanks 1 = .ok (.istore_n 1, 1) := by decide +kernel
theorem dX6_chargeBanks_2 : decode cX6_chargeBanks 2 = .ok (.iload_n 1, 1) := by decide +kernel
theorem dX6_chargeBanks_3 : decode cX6_chargeBanks 3 = .ok (.bipush 6, 2) := by decide +kernel
theorem dX6_chargeBanks_5 : decode cX6_chargeBanks 5 = .ok (.if_icmp .ge 75, 3) := by decide +kernel
theorem dX6_chargeBanks_8 : decode cX6_chargeBanks 8 = .ok (.iconst 0, 1) := by decide +kernel
theorem dX6_chargeBanks_9 : decode cX6_chargeBanks 9 = .ok (.istore_n 2, 1) := by decide +kernel
theorem dX6_chargeBanks_10 : decode cX6_chargeBanks 10 = .ok (.iload_n 2, 1) := by decide +kernel
theorem dX6_chargeBanks_11 : decode cX6_chargeBanks 11 = .ok (.iconst 3, 1) := by decide +kernel
theorem dX6_chargeBanks_12 : decode cX6_chargeBanks 12 = .ok (.if_icmp .ge 62, 3) := by decide +kernel
theorem dX6_chargeBanks_15 : decode cX6_chargeBanks 15 = .ok (.aload_n 0, 1) := by decide +kernel
theorem dX6_chargeBanks_16 : decode cX6_chargeBanks 16 = .ok (.getfield 21, 3) := by decide +kernel
theorem dX6_chargeBanks_19 : decode cX6_chargeBanks 19 = .ok (.iload_n 1, 1) := by decide +kernel
theorem dX6_chargeBanks_20 : decode cX6_chargeBanks 20 = .ok (.iload_n 2, 1) := by decide +kernel
theorem dX6_chargeBanks_21 : decode cX6_chargeBanks 21 = .ok (.invokevirtual 219, 3) := by decide +kernel
theorem dX6_chargeBanks_24 : decode cX6_chargeBanks 24 = .ok (.lneg, 1) := by decide +kernel
theorem dX6_chargeBanks_25 : decode cX6_chargeBanks 25 = .ok (.lconst 0, 1) := by decide +kernel
theorem dX6_chargeBanks_26 : decode cX6_chargeBanks 26 = .ok (.invokestatic 223, 3) := by decide +kernel
theorem dX6_chargeBanks_29 : decode cX6_chargeBanks 29 = .ok (.lstore_n 3, 1) := by decide +kernel
theorem dX6_chargeBanks_30 : decode cX6_chargeBanks 30 = .ok (.aload_n 0, 1) := by decide +kernel
theorem dX6_chargeBanks_31 : decode cX6_chargeBanks 31 = .ok (.iload_n 1, 1) := by decide +kernel
theorem dX6_chargeBanks_32 : decode cX6_chargeBanks 32 = .ok (.iload_n 2, 1) := by decide +kernel
theorem dX6_chargeBanks_33 : decode cX6_chargeBanks 33 = .ok (.aload_n 0, 1) := by decide +kernel
theorem dX6_chargeBanks_34 : decode cX6_chargeBanks 34 = .ok (.getfield 28, 3) := by decide +kernel
theorem dX6_chargeBanks_37 : decode cX6_chargeBanks 37 = .ok (.iload_n 1, 1) := by decide +kernel
theorem dX6_chargeBanks_38 : decode cX6_chargeBanks 38 = .ok (.iload_n 2, 1) := by decide +kernel
theorem dX6_chargeBanks_39 : decode cX6_chargeBanks 39 = .ok (.aload_n 0, 1) := by decide +kernel
theorem dX6_chargeBanks_40 : decode cX6_chargeBanks 40 = .ok (.getfield 12, 3) := by decide +kernel
theorem dX6_chargeBanks_43 : decode cX6_chargeBanks 43 = .ok (.getfield 68, 3) := by decide +kernel
theorem dX6_chargeBanks_46 : decode cX6_chargeBanks 46 = .ok (.invokevirtual 229, 3) := by decide +kernel
theorem dX6_chargeBanks_49 : decode cX6_chargeBanks 49 = .ok (.i2l, 1) := by decide +kernel
theorem dX6_chargeBanks_50 : decode cX6_chargeBanks 50 = .ok (.invokevirtual 233, 3) := by decide +kernel
theorem dX6_chargeBanks_53 : decode cX6_chargeBanks 53 = .ok (.aload_n 0, 1) := by decide +kernel
theorem dX6_chargeBanks_54 : decode cX6_chargeBanks 54 = .ok (.iload_n 1, 1) := by decide +kernel
theorem dX6_chargeBanks_55 : decode cX6_chargeBanks 55 = .ok (.iload_n 2, 1) := by decide +kernel
theorem dX6_chargeBanks_56 : decode cX6_chargeBanks 56 = .ok (.lload_n 3, 1) := by decide +kernel
theorem dX6_chargeBanks_57 : decode cX6_chargeBanks 57 = .ok (.ldc2_w 237, 3) := by decide +kernel
theorem dX6_chargeBanks_60 : decode cX6_chargeBanks 60 = .ok (.ladd, 1) := by decide +kernel
theorem dX6_chargeBanks_61 : decode cX6_chargeBanks 61 = .ok (.ldc2_w 239, 3) := by decide +kernel
theorem dX6_chargeBanks_64 : decode cX6_chargeBanks 64 = .ok (.ldiv, 1) := by decide +kernel
theorem dX6_chargeBanks_65 : decode cX6_chargeBanks 65 = .ok (.invokevirtual 233, 3) := by decide +kernel
theorem dX6_chargeBanks_68 : decode cX6_chargeBanks 68 = .ok (.iinc 2 1, 3) := by decide +kernel
theorem dX6_chargeBanks_71 : decode cX6_chargeBanks 71 = .ok (.goto (-61), 3) := by decide +kernel
theorem dX6_chargeBanks_74 : decode cX6_chargeBanks 74 = .ok (.iinc 1 1, 3) := by decide +kernel
theorem dX6_chargeBanks_77 : decode cX6_chargeBanks 77 = .ok (.goto (-75), 3) := by decide +kernel
theorem dX6_chargeBanks_80 : decode cX6_chargeBanks 80 = .ok (.return_, 1) := by decide +kernel
theorem dX6_charge_0 : decode cX6_charge 0 = .ok (.lload_n 3, 1) := by decide +kernel
theorem dX6_charge_1 : decode cX6_charge 1 = .ok (.lconst 0, 1) := by decide +kernel
theorem dX6_charge_2 : decode cX6_charge 2 = .ok (.lcmp, 1) := by decide +kernel
theorem dX6_charge_3 : decode cX6_charge 3 = .ok (.ifCond .le 16, 3) := by decide +kernel
theorem dX6_charge_6 : decode cX6_charge 6 = .ok (.aload_n 0, 1) := by decide +kernel
theorem dX6_charge_7 : decode cX6_charge 7 = .ok (.getfield 21, 3) := by decide +kernel
theorem dX6_charge_10 : decode cX6_charge 10 = .ok (.iload_n 1, 1) := by decide +kernel
theorem dX6_charge_11 : decode cX6_charge 11 = .ok (.bipush 6, 2) := by decide +kernel
theorem dX6_charge_13 : decode cX6_charge 13 = .ok (.iload_n 2, 1) := by decide +kernel
theorem dX6_charge_14 : decode cX6_charge 14 = .ok (.lload_n 3, 1) := by decide +kernel
theorem dX6_charge_15 : decode cX6_charge 15 = .ok (.iconst (-1), 1) := by decide +kernel
theorem dX6_charge_16 : decode cX6_charge 16 = .ok (.invokevirtual 241, 3) := by decide +kernel
theorem dX6_charge_19 : decode cX6_charge 19 = .ok (.return_, 1) := by decide +kernel
theorem dX6_letWaitingEnter_0 : decode cX6_letWaitingEnter 0 = .ok (.iconst 0, 1) := by decide +kernel
theorem dX6_letWaitingEnter_1 : decode cX6_letWaitingEnter 1 = .ok (.istore_n 1, 1) := by decide +kernel
theorem dX6_letWaitingEnter_2 : decode cX6_letWaitingEnter 2 = .ok (.iload_n 1, 1) := by decide +kernel
theorem dX6_letWaitingEnter_3 : decode cX6_letWaitingEnter 3 = .ok (.aload_n 0, 1) := by decide +kernel
theorem dX6_letWaitingEnter_4 : decode cX6_letWaitingEnter 4 = .ok (.getfield 28, 3) := by decide +kernel
theorem dX6_letWaitingEnter_7 : decode cX6_letWaitingEnter 7 = .ok (.invokevirtual 121, 3) := by decide +kernel
theorem dX6_letWaitingEnter_10 : decode cX6_letWaitingEnter 10 = .ok (.if_icmp .ge 68, 3) := by decide +kernel
theorem dX6_letWaitingEnter_13 : decode cX6_letWaitingEnter 13 = .ok (.aload_n 0, 1) := by decide +kernel
theorem dX6_letWaitingEnter_14 : decode cX6_letWaitingEnter 14 = .ok (.getfield 28, 3) := by decide +kernel
theorem dX6_letWaitingEnter_17 : decode cX6_letWaitingEnter 17 = .ok (.iload_n 1, 1) := by decide +kernel
theorem dX6_letWaitingEnter_18 : decode cX6_letWaitingEnter 18 = .ok (.invokevirtual 125, 3) := by decide +kernel
theorem dX6_letWaitingEnter_21 : decode cX6_letWaitingEnter 21 = .ok (.astore_n 2, 1) := by decide +kernel
theorem dX6_letWaitingEnter_22 : decode cX6_letWaitingEnter 22 = .ok (.aload_n 2, 1) := by decide +kernel
theorem dX6_letWaitingEnter_23 : decode cX6_letWaitingEnter 23 = .ok (.ifnull 49, 3) := by decide +kernel
theorem dX6_letWaitingEnter_26 : decode cX6_letWaitingEnter 26 = .ok (.aload_n 2, 1) := by decide +kernel
theorem dX6_letWaitingEnter_27 : decode cX6_letWaitingEnter 27 = .ok (.getfield 115, 3) := by decide +kernel
theorem dX6_letWaitingEnter_30 : decode cX6_letWaitingEnter 30 = .ok (.ifCond .ne 42, 3) := by decide +kernel
theorem dX6_letWaitingEnter_33 : decode cX6_letWaitingEnter 33 = .ok (.aload_n 2, 1) := by decide +kernel
theorem dX6_letWaitingEnter_34 : decode cX6_letWaitingEnter 34 = .ok (.getfield 101, 3) := by decide +kernel
theorem dX6_letWaitingEnter_37 : decode cX6_letWaitingEnter 37 = .ok (.getfield 62, 3) := by decide +kernel
theorem dX6_letWaitingEnter_40 : decode cX6_letWaitingEnter 40 = .ok (.aload_n 0, 1) := by decide +kernel
theorem dX6_letWaitingEnter_41 : decode cX6_letWaitingEnter 41 = .ok (.getfield 12, 3) := by decide +kernel
theorem dX6_letWaitingEnter_44 : decode cX6_letWaitingEnter 44 = .ok (.getfield 68, 3) := by decide +kernel
theorem dX6_letWaitingEnter_47 : decode cX6_letWaitingEnter 47 = .ok (.if_icmp .gt 25, 3) := by decide +kernel
theorem dX6_letWaitingEnter_50 : decode cX6_letWaitingEnter 50 = .ok (.aload_n 0, 1) := by decide +kernel
theorem dX6_letWaitingEnter_51 : decode cX6_letWaitingEnter 51 = .ok (.getfield 12, 3) := by decide +kernel
theorem dX6_letWaitingEnter_54 : decode cX6_letWaitingEnter 54 = .ok (.aload_n 2, 1) := by decide +kernel
theorem dX6_letWaitingEnter_55 : decode cX6_letWaitingEnter 55 = .ok (.getfield 101, 3) := by decide +kernel
theorem dX6_letWaitingEnter_58 : decode cX6_letWaitingEnter 58 = .ok (.getfield 69, 3) := by decide +kernel
theorem dX6_letWaitingEnter_61 : decode cX6_letWaitingEnter 61 = .ok (.invokevirtual 72, 3) := by decide +kernel
theorem dX6_letWaitingEnter_64 : decode cX6_letWaitingEnter 64 = .ok (.ifCond .eq 8, 3) := by decide +kernel
theorem dX6_letWaitingEnter_67 : decode cX6_letWaitingEnter 67 = .ok (.aload_n 0, 1) := by decide +kernel
theorem dX6_letWaitingEnter_68 : decode cX6_letWaitingEnter 68 = .ok (.aload_n 2, 1) := by decide +kernel
theorem dX6_letWaitingEnter_69 : decode cX6_letWaitingEnter 69 = .ok (.invokevirtual 76, 3) := by decide +kernel
theorem dX6_letWaitingEnter_72 : decode cX6_letWaitingEnter 72 = .ok (.iinc 1 1, 3) := by decide +kernel
theorem dX6_letWaitingEnter_75 : decode cX6_letWaitingEnter 75 = .ok (.goto (-73), 3) := by decide +kernel
theorem dX6_letWaitingEnter_78 : decode cX6_letWaitingEnter 78 = .ok (.return_, 1) := by decide +kernel
theorem dX7_init_0 : decode cX7_init 0 = .ok (.aload_n 0, 1) := by decide +kernel
theorem dX7_init_1 : decode cX7_init 1 = .ok (.invokespecial 3, 3) := by decide +kernel
theorem dX7_init_4 : decode cX7_init 4 = .ok (.aload_n 0, 1) := by decide +kernel
theorem dX7_init_5 : decode cX7_init 5 = .ok (.iconst 0, 1) := by decide +kernel
theorem dX7_init_6 : decode cX7_init 6 = .ok (.putfield 9, 3) := by decide +kernel
theorem dX7_init_9 : decode cX7_init 9 = .ok (.aload_n 0, 1) := by decide +kernel
theorem dX7_init_10 : decode cX7_init 10 = .ok (.iconst (-1), 1) := by decide +kernel
theorem dX7_init_11 : decode cX7_init 11 = .ok (.putfield 15, 3) := by decide +kernel
theorem dX7_init_14 : decode cX7_init 14 = .ok (.aload_n 0, 1) := by decide +kernel
theorem dX7_init_15 : decode cX7_init 15 = .ok (.iconst (-1), 1) := by decide +kernel
theorem dX7_init_16 : decode cX7_init 16 = .ok (.putfield 18, 3) := by decide +kernel
theorem dX7_init_19 : decode cX7_init 19 = .ok (.aload_n 0, 1) := by decide +kernel
theorem dX7_init_20 : decode cX7_init 20 = .ok (.iconst (-1), 1) := by decide +kernel
theorem dX7_init_21 : decode cX7_init 21 = .ok (.putfield 21, 3) := by decide +kernel
theorem dX7_init_24 : decode cX7_init 24 = .ok (.aload_n 0, 1) := by decide +kernel
theorem dX7_init_25 : decode cX7_init 25 = .ok (.iload_n 1, 1) := by decide +kernel
theorem dX7_init_26 : decode cX7_init 26 = .ok (.putfield 24, 3) := by decide +kernel
theorem dX7_init_29 : decode cX7_init 29 = .ok (.aload_n 0, 1) := by decide +kernel
theorem dX7_init_30 : decode cX7_init 30 = .ok (.aload_n 2, 1) := by decide +kernel
theorem dX7_init_31 : decode cX7_init 31 = .ok (.putfield 27, 3) := by decide +kernel
theorem dX7_init_34 : decode cX7_init 34 = .ok (.return_, 1) := by decide +kernel
theorem dX7_hasEnded_0 : decode cX7_hasEnded 0 = .ok (.aload_n 0, 1) := by decide +kernel
theorem dX7_hasEnded_1 : decode cX7_hasEnded 1 = .ok (.getfield 9, 3) := by decide +kernel
theorem dX7_hasEnded_4 : decode cX7_hasEnded 4 = .ok (.iconst 4, 1) := by decide +kernel
theorem dX7_hasEnded_5 : decode cX7_hasEnded 5 = .ok (.if_icmp .eq 11, 3) := by decide +kernel
theorem dX7_hasEnded_8 : decode cX7_hasEnded 8 = .ok (.aload_n 0, 1) := by decide +kernel
theorem dX7_hasEnded_9 : decode cX7_hasEnded 9 = .ok (.getfield 9, 3) := by decide +kernel
theorem dX7_hasEnded_12 : decode cX7_hasEnded 12 = .ok (.iconst 5, 1) := by decide +kernel
theorem dX7_hasEnded_13 : decode cX7_hasEnded 13 = .ok (.if_icmp .ne 7, 3) := by decide +kernel
theorem dX7_hasEnded_16 : decode cX7_hasEnded 16 = .ok (.iconst 1, 1) := by decide +kernel
theorem dX7_hasEnded_17 : decode cX7_hasEnded 17 = .ok (.goto 4, 3) := by decide +kernel
theorem dX7_hasEnded_20 : decode cX7_hasEnded 20 = .ok (.iconst 0, 1) := by decide +kernel
theorem dX7_hasEnded_21 : decode cX7_hasEnded 21 = .ok (.ireturn, 1) := by decide +kernel
theorem dX7_isIn_0 : decode cX7_isIn 0 = .ok (.aload_n 0, 1) := by decide +kernel
theorem dX7_isIn_1 : decode cX7_isIn 1 = .ok (.getfield 9, 3) := by decide +kernel
theorem dX7_isIn_4 : decode cX7_isIn 4 = .ok (.iload_n 1, 1) := by decide +kernel
theorem dX7_isIn_5 : decode cX7_isIn 5 = .ok (.if_icmp .ne 18, 3) := by decide +kernel
theorem dX7_isIn_8 : decode cX7_isIn 8 = .ok (.aload_n 0, 1) := by decide +kernel
theorem dX7_isIn_9 : decode cX7_isIn 9 = .ok (.getfield 27, 3) := by decide +kernel
theorem dX7_isIn_12 : decode cX7_isIn 12 = .ok (.getfield 31, 3) := by decide +kernel
theorem dX7_isIn_15 : decode cX7_isIn 15 = .ok (.iload_n 2, 1) := by decide +kernel
theorem dX7_isIn_16 : decode cX7_isIn 16 = .ok (.if_icmp .ne 7, 3) := by decide +kernel
theorem dX7_isIn_19 : decode cX7_isIn 19 = .ok (.iconst 1, 1) := by decide +kernel
theorem dX7_isIn_20 : decode cX7_isIn 20 = .ok (.goto 4, 3) := by decide +kernel
theorem dX7_isIn_23 : decode cX7_isIn 23 = .ok (.iconst 0, 1) := by decide +kernel
theorem dX7_isIn_24 : decode cX7_isIn 24 = .ok (.ireturn, 1) := by decide +kernel
theorem dX7_isBehind_0 : decode cX7_isBehind 0 = .ok (.aload_n 0, 1) := by decide +kernel
theorem dX7_isBehind_1 : decode cX7_isBehind 1 = .ok (.getfield 27, 3) := by decide +kernel
theorem dX7_isBehind_4 : decode cX7_isBehind 4 = .ok (.getfield 36, 3) := by decide +kernel
theorem dX7_isBehind_7 : decode cX7_isBehind 7 = .ok (.aload_n 1, 1) := by decide +kernel
theorem dX7_isBehind_8 : decode cX7_isBehind 8 = .ok (.getfield 27, 3) := by decide +kernel
theorem dX7_isBehind_11 : decode cX7_isBehind 11 = .ok (.getfield 36, 3) := by decide +kernel
theorem dX7_isBehind_14 : decode cX7_isBehind 14 = .ok (.if_icmp .lt 31, 3) := by decide +kernel
theorem dX7_isBehind_17 : decode cX7_isBehind 17 = .ok (.aload_n 0, 1) := by decide +kernel
theorem dX7_isBehind_18 : decode cX7_isBehind 18 = .ok (.getfield 27, 3) := by decide +kernel
theorem dX7_isBehind_21 : decode cX7_isBehind 21 = .ok (.getfield 36, 3) := by decide +kernel
theorem dX7_isBehind_24 : decode cX7_isBehind 24 = .ok (.aload_n 1, 1) := by decide +kernel
theorem dX7_isBehind_25 : decode cX7_isBehind 25 = .ok (.getfield 27, 3) := by decide +kernel
theorem dX7_isBehind_28 : decode cX7_isBehind 28 = .ok (.getfield 36, 3) := by decide +kernel
theorem dX7_isBehind_31 : decode cX7_isBehind 31 = .ok (.if_icmp .ne 18, 3) := by decide +kernel
theorem dX7_isBehind_34 : decode cX7_isBehind 34 = .ok (.aload_n 0, 1) := by decide +kernel
theorem dX7_isBehind_35 : decode cX7_isBehind 35 = .ok (.getfield 24, 3) := by decide +kernel
theorem dX7_isBehind_38 : decode cX7_isBehind 38 = .ok (.aload_n 1, 1) := by decide +kernel
theorem dX7_isBehind_39 : decode cX7_isBehind 39 = .ok (.getfield 24, 3) := by decide +kernel
theorem dX7_isBehind_42 : decode cX7_isBehind 42 = .ok (.if_icmp .le 7, 3) := by decide +kernel
theorem dX7_isBehind_45 : decode cX7_isBehind 45 = .ok (.iconst 1, 1) := by decide +kernel
theorem dX7_isBehind_46 : decode cX7_isBehind 46 = .ok (.goto 4, 3) := by decide +kernel
theorem dX7_isBehind_49 : decode cX7_isBehind 49 = .ok (.iconst 0, 1) := by decide +kernel
theorem dX7_isBehind_50 : decode cX7_isBehind 50 = .ok (.ireturn, 1) := by decide +kernel
theorem dX7_canBeLegWith_0 : decode cX7_canBeLegWith 0 = .ok (.aload_n 0, 1) := by decide +kernel
theorem dX7_canBeLegWith_1 : decode cX7_canBeLegWith 1 = .ok (.invokevirtual 39, 3) := by decide +kernel
theorem dX7_canBeLegWith_4 : decode cX7_canBeLegWith 4 = .ok (.ifCond .ne 79, 3) := by decide +kernel
theorem dX7_canBeLegWith_7 : decode cX7_canBeLegWith 7 = .ok (.aload_n 1, 1) := by decide +kernel
theorem dX7_canBeLegWith_8 : decode cX7_canBeLegWith 8 = .ok (.invokevirtual 39, 3) := by decide +kernel
theorem dX7_canBeLegWith_11 : decode cX7_canBeLegWith 11 = .ok (.ifCond .ne 72, 3) := by decide +kernel
theorem dX7_canBeLegWith_14 : decode cX7_canBeLegWith 14 = .ok (.aload_n 0, 1) := by decide +kernel
theorem dX7_canBeLegWith_15 : decode cX7_canBeLegWith 15 = .ok (.getfield 43, 3) := by decide +kernel
theorem dX7_canBeLegWith_18 : decode cX7_canBeLegWith 18 = .ok (.ifnonnull 65, 3) := by decide +kernel
theorem dX7_canBeLegWith_21 : decode cX7_canBeLegWith 21 = .ok (.aload_n 1, 1) := by decide +kernel
theorem dX7_canBeLegWith_22 : decode cX7_canBeLegWith 22 = .ok (.getfield 43, 3) := by decide +kernel
theorem dX7_canBeLegWith_25 : decode cX7_canBeLegWith 25 = .ok (.ifnonnull 58, 3) := by decide +kernel
theorem dX7_canBeLegWith_28 : decode cX7_canBeLegWith 28 = .ok (.aload_n 0, 1) := by decide +kernel
theorem dX7_canBeLegWith_29 : decode cX7_canBeLegWith 29 = .ok (.getfield 27, 3) := by decide +kernel
theorem dX7_canBeLegWith_32 : decode cX7_canBeLegWith 32 = .ok (.getfield 47, 3) := by decide +kernel
theorem dX7_canBeLegWith_35 : decode cX7_canBeLegWith 35 = .ok (.ifCond .eq 48, 3) := by decide +kernel
theorem dX7_canBeLegWith_38 : decode cX7_canBeLegWith 38 = .ok (.aload_n 1, 1) := by decide +kernel
theorem dX7_canBeLegWith_39 : decode cX7_canBeLegWith 39 = .ok (.getfield 27, 3) := by decide +kernel
theorem dX7_canBeLegWith_42 : decode cX7_canBeLegWith 42 = .ok (.getfield 47, 3) := by decide +kernel
theorem dX7_canBeLegWith_45 : decode cX7_canBeLegWith 45 = .ok (.ifCond .eq 38, 3) := by decide +kernel
theorem dX7_canBeLegWith_48 : decode cX7_canBeLegWith 48 = .ok (.aload_n 0, 1) := by decide +kernel
theorem dX7_canBeLegWith_49 : decode cX7_canBeLegWith 49 = .ok (.getfield 27, 3) := by decide +kernel
theorem dX7_canBeLegWith_52 : decode cX7_canBeLegWith 52 = .ok (.getfield 31, 3) := by decide +kernel
theorem dX7_canBeLegWith_55 : decode cX7_canBeLegWith 55 = .ok (.aload_n 1, 1) := by decide +kernel
theorem dX7_canBeLegWith_56 : decode cX7_canBeLegWith 56 = .ok (.getfield 27, 3) := by decide +kernel
theorem dX7_canBeLegWith_59 : decode cX7_canBeLegWith 59 = .ok (.getfield 31, 3) := by decide +kernel
theorem dX7_canBeLegWith_62 : decode cX7_canBeLegWith 62 = .ok (.if_icmp .eq 21, 3) := by decide +kernel
theorem dX7_canBeLegWith_65 : decode cX7_canBeLegWith 65 = .ok (.aload_n 0, 1) := by decide +kernel
theorem dX7_canBeLegWith_66 : decode cX7_canBeLegWith 66 = .ok (.getfield 27, 3) := by decide +kernel
theorem dX7_canBeLegWith_69 : decode cX7_canBeLegWith 69 = .ok (.aload_n 1, 1) := by decide +kernel
theorem dX7_canBeLegWith_70 : decode cX7_canBeLegWith 70 = .ok (.getfield 27, 3) := by decide +kernel
theorem dX7_canBeLegWith_73 : decode cX7_canBeLegWith 73 = .ok (.invokevirtual 51, 3) := by decide +kernel
theorem dX7_canBeLegWith_76 : decode cX7_canBeLegWith 76 = .ok (.ifCond .eq 7, 3) := by decide +kernel
theorem dX7_canBeLegWith_79 : decode cX7_canBeLegWith 79 = .ok (.iconst 1, 1) := by decide +kernel
theorem dX7_canBeLegWith_80 : decode cX7_canBeLegWith 80 = .ok (.goto 4, 3) := by decide +kernel
theorem dX7_canBeLegWith_83 : decode cX7_canBeLegWith 83 = .ok (.iconst 0, 1) := by decide +kernel
theorem dX7_canBeLegWith_84 : decode cX7_canBeLegWith 84 = .ok (.ireturn, 1) := by decide +kernel
theorem dX7_giveBack_0 : decode cX7_giveBack 0 = .ok (.aload_n 0, 1) := by decide +kernel
theorem dX7_giveBack_1 : decode cX7_giveBack 1 = .ok (.iconst 5, 1) := by decide +kernel
theorem dX7_giveBack_2 : decode cX7_giveBack 2 = .ok (.putfield 9, 3) := by decide +kernel
theorem dX7_giveBack_5 : decode cX7_giveBack 5 = .ok (.aload_n 0, 1) := by decide +kernel
theorem dX7_giveBack_6 : decode cX7_giveBack 6 = .ok (.getfield 43, 3) := by decide +kernel
theorem dX7_giveBack_9 : decode cX7_giveBack 9 = .ok (.ifnull 13, 3) := by decide +kernel
theorem dX7_giveBack_12 : decode cX7_giveBack 12 = .ok (.aload_n 0, 1) := by decide +kernel
theorem dX7_giveBack_13 : decode cX7_giveBack 13 = .ok (.getfield 43, 3) := by decide +kernel
theorem dX7_giveBack_16 : decode cX7_giveBack 16 = .ok (.invokevirtual 39, 3) := by decide +kernel
theorem dX7_giveBack_19 : decode cX7_giveBack 19 = .ok (.ifCond .eq 5, 3) := by decide +kernel
theorem dX7_giveBack_22 : decode cX7_giveBack 22 = .ok (.iconst 1, 1) := by decide +kernel
theorem dX7_giveBack_23 : decode cX7_giveBack 23 = .ok (.ireturn, 1) := by decide +kernel
theorem dX7_giveBack_24 : decode cX7_giveBack 24 = .ok (.aload_n 0, 1) := by decide +kernel
theorem dX7_giveBack_25 : decode cX7_giveBack 25 = .ok (.getfield 43, 3) := by decide +kernel
theorem dX7_giveBack_28 : decode cX7_giveBack 28 = .ok (.iconst 5, 1) := by decide +kernel
theorem dX7_giveBack_29 : decode cX7_giveBack 29 = .ok (.putfield 9, 3) := by decide +kernel
theorem dX7_giveBack_32 : decode cX7_giveBack 32 = .ok (.iconst 2, 1) := by decide +kernel
theorem dX7_giveBack_33 : decode cX7_giveBack 33 = .ok (.ireturn, 1) := by decide +kernel
theorem dX8_init_0 : decode cX8_init 0 = .ok (.aload_n 0, 1) := by decide +kernel
theorem dX8_init_1 : decode cX8_init 1 = .ok (.invokespecial 3, 3) := by decide +kernel
theorem dX8_init_4 : decode cX8_init 4 = .ok (.aload_n 0, 1) := by decide +kernel
theorem dX8_init_5 : decode cX8_init 5 = .ok (.new 9, 3) := by decide +kernel
theorem dX8_init_8 : decode cX8_init 8 = .ok (.dup, 1) := by decide +kernel
theorem dX8_init_9 : decode cX8_init 9 = .ok (.invokespecial 11, 3) := by decide +kernel
theorem dX8_init_12 : decode cX8_init 12 = .ok (.putfield 12, 3) := by decide +kernel
theorem dX8_init_15 : decode cX8_init 15 = .ok (.aload_n 0, 1) := by decide +kernel
theorem dX8_init_16 : decode cX8_init 16 = .ok (.new 18, 3) := by decide +kernel
theorem dX8_init_19 : decode cX8_init 19 = .ok (.dup, 1) := by decide +kernel
theorem dX8_init_20 : decode cX8_init 20 = .ok (.sipush 600, 3) := by decide +kernel
theorem dX8_init_23 : decode cX8_init 23 = .ok (.invokespecial 20, 3) := by decide +kernel
theorem dX8_init_26 : decode cX8_init 26 = .ok (.putfield 23, 3) := by decide +kernel
theorem dX8_init_29 : decode cX8_init 29 = .ok (.aload_n 0, 1) := by decide +kernel
theorem dX8_init_30 : decode cX8_init 30 = .ok (.getfield 23, 3) := by decide +kernel
theorem dX8_init_33 : decode cX8_init 33 = .ok (.ldc2_w 27, 3) := by decide +kernel
theorem dX8_init_36 : decode cX8_init 36 = .ok (.invokevirtual 29, 3) := by decide +kernel
theorem dX8_init_39 : decode cX8_init 39 = .ok (.return_, 1) := by decide +kernel
theorem dX8_count_0 : decode cX8_count 0 = .ok (.aload_n 0, 1) := by decide +kernel
theorem dX8_count_1 : decode cX8_count 1 = .ok (.getfield 12, 3) := by decide +kernel
theorem dX8_count_4 : decode cX8_count 4 = .ok (.invokevirtual 33, 3) := by decide +kernel
theorem dX8_count_7 : decode cX8_count 7 = .ok (.ireturn, 1) := by decide +kernel
theorem dX8_isFull_0 : decode cX8_isFull 0 = .ok (.aload_n 0, 1) := by decide +kernel
theorem dX8_isFull_1 : decode cX8_isFull 1 = .ok (.getfield 12, 3) := by decide +kernel
theorem dX8_isFull_4 : decode cX8_isFull 4 = .ok (.invokevirtual 33, 3) := by decide +kernel
theorem dX8_isFull_7 : decode cX8_isFull 7 = .ok (.bipush 60, 2) := by decide +kernel
theorem dX8_isFull_9 : decode cX8_isFull 9 = .ok (.if_icmp .lt 7, 3) := by decide +kernel
theorem dX8_isFull_12 : decode cX8_isFull 12 = .ok (.iconst 1, 1) := by decide +kernel
theorem dX8_isFull_13 : decode cX8_isFull 13 = .ok (.goto 4, 3) := by decide +kernel
theorem dX8_isFull_16 : decode cX8_isFull 16 = .ok (.iconst 0, 1) := by decide +kernel
theorem dX8_isFull_17 : decode cX8_isFull 17 = .ok (.ireturn, 1) := by decide +kernel
theorem dX8_find_0 : decode cX8_find 0 = .ok (.iload_n 1, 1) := by decide +kernel
theorem dX8_find_1 : decode cX8_find 1 = .ok (.ifCond .lt 28, 3) := by decide +kernel
theorem dX8_find_4 : decode cX8_find 4 = .ok (.iload_n 1, 1) := by decide +kernel
theorem dX8_find_5 : decode cX8_find 5 = .ok (.aload_n 0, 1) := by decide +kernel
theorem dX8_find_6 : decode cX8_find 6 = .ok (.getfield 12, 3) := by decide +kernel
theorem dX8_find_9 : decode cX8_find 9 = .ok (.invokevirtual 33, 3) := by decide +kernel
theorem dX8_find_12 : decode cX8_find 12 = .ok (.if_icmp .ge 17, 3) := by decide +kernel
theorem dX8_find_15 : decode cX8_find 15 = .ok (.aload_n 0, 1) := by decide +kernel
theorem dX8_find_16 : decode cX8_find 16 = .ok (.getfield 12, 3) := by decide +kernel
theorem dX8_find_19 : decode cX8_find 19 = .ok (.iload_n 1, 1) := by decide +kernel
theorem dX8_find_20 : decode cX8_find 20 = .ok (.invokevirtual 37, 3) := by decide +kernel
theorem dX8_find_23 : decode cX8_find 23 = .ok (.checkcast 41, 3) := by decide +kernel
theorem dX8_find_26 : decode cX8_find 26 = .ok (.goto 4, 3) := by decide +kernel
theorem dX8_find_29 : decode cX8_find 29 = .ok (.aconst_null, 1) := by decide +kernel
theorem dX8_find_30 : decode cX8_find 30 = .ok (.areturn, 1) := by decide +kernel
theorem dX8_open_0 : decode cX8_open 0 = .ok (.new 41, 3) := by decide +kernel
theorem dX8_open_3 : decode cX8_open 3 = .ok (.dup, 1) := by decide +kernel
theorem dX8_open_4 : decode cX8_open 4 = .ok (.aload_n 0, 1) := by decide +kernel
theorem dX8_open_5 : decode cX8_open 5 = .ok (.getfield 12, 3) := by decide +kernel
theorem dX8_open_8 : decode cX8_open 8 = .ok (.invokevirtual 33, 3) := by decide +kernel
theorem dX8_open_11 : decode cX8_open 11 = .ok (.aload_n 1, 1) := by decide +kernel
theorem dX8_open_12 : decode cX8_open 12 = .ok (.invokespecial 43, 3) := by decide +kernel
theorem dX8_open_15 : decode cX8_open 15 = .ok (.astore_n 2, 1) := by decide +kernel
theorem dX8_open_16 : decode cX8_open 16 = .ok (.aload_n 0, 1) := by decide +kernel
theorem dX8_open_17 : decode cX8_open 17 = .ok (.getfield 12, 3) := by decide +kernel
theorem dX8_open_20 : decode cX8_open 20 = .ok (.aload_n 2, 1) := by decide +kernel
theorem dX8_open_21 : decode cX8_open 21 = .ok (.invokevirtual 46, 3) := by decide +kernel
theorem dX8_open_24 : decode cX8_open 24 = .ok (.pop, 1) := by decide +kernel
theorem dX8_open_25 : decode cX8_open 25 = .ok (.aload_n 2, 1) := by decide +kernel
theorem dX8_open_26 : decode cX8_open 26 = .ok (.areturn, 1) := by decide +kernel
theorem dX8_toldBy_0 : decode cX8_toldBy 0 = .ok (.aload_n 0, 1) := by decide +kernel
theorem dX8_toldBy_1 : decode cX8_toldBy 1 = .ok (.aload_n 0, 1) := by decide +kernel
theorem dX8_toldBy_2 : decode cX8_toldBy 2 = .ok (.getfield 23, 3) := by decide +kernel
theorem dX8_toldBy_5 : decode cX8_toldBy 5 = .ok (.iload_n 1, 1) := by decide +kernel
theorem dX8_toldBy_6 : decode cX8_toldBy 6 = .ok (.bipush 100, 2) := by decide +kernel
theorem dX8_toldBy_8 : decode cX8_toldBy 8 = .ok (.imul, 1) := by decide +kernel
theorem dX8_toldBy_9 : decode cX8_toldBy 9 = .ok (.iload_n 2, 1) := by decide +kernel
theorem dX8_toldBy_10 : decode cX8_toldBy 10 = .ok (.iadd, 1) := by decide +kernel
theorem dX8_toldBy_11 : decode cX8_toldBy 11 = .ok (.invokevirtual 50, 3) := by decide +kernel
theorem dX8_toldBy_14 : decode cX8_toldBy 14 = .ok (.l2i, 1) := by decide +kernel
theorem dX8_toldBy_15 : decode cX8_toldBy 15 = .ok (.invokevirtual 54, 3) := by decide +kernel
theorem dX8_toldBy_18 : decode cX8_toldBy 18 = .ok (.areturn, 1) := by decide +kernel
theorem dX8_keepMessage_0 : decode cX8_keepMessage 0 = .ok (.aload_n 0, 1) := by decide +kernel
theorem dX8_keepMessage_1 : decode cX8_keepMessage 1 = .ok (.getfield 23, 3) := by decide +kernel
theorem dX8_keepMessage_4 : decode cX8_keepMessage 4 = .ok (.iload_n 1, 1) := by decide +kernel
theorem dX8_keepMessage_5 : decode cX8_keepMessage 5 = .ok (.bipush 100, 2) := by decide +kernel
theorem dX8_keepMessage_7 : decode cX8_keepMessage 7 = .ok (.imul, 1) := by decide +kernel
theorem dX8_keepMessage_8 : decode cX8_keepMessage 8 = .ok (.iload_n 2, 1) := by decide +kernel
theorem dX8_keepMessage_9 : decode cX8_keepMessage 9 = .ok (.iadd, 1) := by decide +kernel
theorem dX8_keepMessage_10 : decode cX8_keepMessage 10 = .ok (.iload_n 3, 1) := by decide +kernel
theorem dX8_keepMessage_11 : decode cX8_keepMessage 11 = .ok (.i2l, 1) := by decide +kernel
theorem dX8_keepMessage_12 : decode cX8_keepMessage 12 = .ok (.invokevirtual 58, 3) := by decide +kernel
theorem dX8_keepMessage_15 : decode cX8_keepMessage 15 = .ok (.return_, 1) := by decide +kernel
theorem dX8_nextQueued_0 : decode cX8_nextQueued 0 = .ok (.aconst_null, 1) := by decide +kernel
theorem dX8_nextQueued_1 : decode cX8_nextQueued 1 = .ok (.astore 4, 2) := by decide +kernel
theorem dX8_nextQueued_3 : decode cX8_nextQueued 3 = .ok (.iconst 0, 1) := by decide +kernel
theorem dX8_nextQueued_4 : decode cX8_nextQueued 4 = .ok (.istore 5, 2) := by decide +kernel
theorem dX8_nextQueued_6 : decode cX8_nextQueued 6 = .ok (.iload 5, 2) := by decide +kernel
theorem dX8_nextQueued_8 : decode cX8_nextQueued 8 = .ok (.aload_n 0, 1) := by decide +kernel
theorem dX8_nextQueued_9 : decode cX8_nextQueued 9 = .ok (.getfield 12, 3) := by decide +kernel
theorem dX8_nextQueued_12 : decode cX8_nextQueued 12 = .ok (.invokevirtual 33, 3) := by decide +kernel
theorem dX8_nextQueued_15 : decode cX8_nextQueued 15 = .ok (.if_icmp .ge 77, 3) := by decide +kernel
theorem dX8_nextQueued_18 : decode cX8_nextQueued 18 = .ok (.aload_n 0, 1) := by decide +kernel
theorem dX8_nextQueued_19 : decode cX8_nextQueued 19 = .ok (.getfield 12, 3) := by decide +kernel
theorem dX8_nextQueued_22 : decode cX8_nextQueued 22 = .ok (.iload 5, 2) := by decide +kernel
theorem dX8_nextQueued_24 : decode cX8_nextQueued 24 = .ok (.invokevirtual 37, 3) := by decide +kernel
theorem dX8_nextQueued_27 : decode cX8_nextQueued 27 = .ok (.checkcast 41, 3) := by decide +kernel
theorem dX8_nextQueued_30 : decode cX8_nextQueued 30 = .ok (.astore 6, 2) := by decide +kernel
theorem dX8_nextQueued_32 : decode cX8_nextQueued 32 = .ok (.aload 6, 2) := by decide +kernel
theorem dX8_nextQueued_34 : decode cX8_nextQueued 34 = .ok (.iconst 2, 1) := by decide +kernel
theorem dX8_nextQueued_35 : decode cX8_nextQueued 35 = .ok (.iload_n 2, 1) := by decide +kernel
theorem dX8_nextQueued_36 : decode cX8_nextQueued 36 = .ok (.invokevirtual 62, 3) := by decide +kernel
theorem dX8_nextQueued_39 : decode cX8_nextQueued 39 = .ok (.ifCond .eq 47, 3) := by decide +kernel
theorem dX8_nextQueued_42 : decode cX8_nextQueued 42 = .ok (.aload 6, 2) := by decide +kernel
theorem dX8_nextQueued_44 : decode cX8_nextQueued 44 = .ok (.getfield 66, 3) := by decide +kernel
theorem dX8_nextQueued_47 : decode cX8_nextQueued 47 = .ok (.getfield 70, 3) := by decide +kernel
theorem dX8_nextQueued_50 : decode cX8_nextQueued 50 = .ok (.iload_n 1, 1) := by decide +kernel
theorem dX8_nextQueued_51 : decode cX8_nextQueued 51 = .ok (.if_icmp .ne 35, 3) := by decide +kernel
theorem dX8_nextQueued_54 : decode cX8_nextQueued 54 = .ok (.aload_n 3, 1) := by decide +kernel
theorem dX8_nextQueued_55 : decode cX8_nextQueued 55 = .ok (.ifnull 12, 3) := by decide +kernel
theorem dX8_nextQueued_58 : decode cX8_nextQueued 58 = .ok (.aload 6, 2) := by decide +kernel
theorem dX8_nextQueued_60 : decode cX8_nextQueued 60 = .ok (.aload_n 3, 1) := by decide +kernel
theorem dX8_nextQueued_61 : decode cX8_nextQueued 61 = .ok (.invokevirtual 76, 3) := by decide +kernel
theorem dX8_nextQueued_64 : decode cX8_nextQueued 64 = .ok (.ifCond .eq 22, 3) := by decide +kernel
theorem dX8_nextQueued_67 : decode cX8_nextQueued 67 = .ok (.aload 4, 2) := by decide +kernel
theorem dX8_nextQueued_69 : decode cX8_nextQueued 69 = .ok (.ifnull 13, 3) := by decide +kernel
theorem dX8_nextQueued_72 : decode cX8_nextQueued 72 = .ok (.aload 4, 2) := by decide +kernel
theorem dX8_nextQueued_74 : decode cX8_nextQueued 74 = .ok (.aload 6, 2) := by decide +kernel
theorem dX8_nextQueued_76 : decode cX8_nextQueued 76 = .ok (.invokevirtual 76, 3) := by decide +kernel
theorem dX8_nextQueued_79 : decode cX8_nextQueued 79 = .ok (.ifCond .eq 7, 3) := by decide +kernel
theorem dX8_nextQueued_82 : decode cX8_nextQueued 82 = .ok (.aload 6, 2) := by decide +kernel
theorem dX8_nextQueued_84 : decode cX8_nextQueued 84 = .ok (.astore 4, 2) := by decide +kernel
theorem dX8_nextQueued_86 : decode cX8_nextQueued 86 = .ok (.iinc 5 1, 3) := by decide +kernel
theorem dX8_nextQueued_89 : decode cX8_nextQueued 89 = .ok (.goto (-83), 3) := by decide +kernel
theorem dX8_nextQueued_92 : decode cX8_nextQueued 92 = .ok (.aload 4, 2) := by decide +kernel
theorem dX8_nextQueued_94 : decode cX8_nextQueued 94 = .ok (.areturn, 1) := by decide +kernel
theorem dX8_queuedAt_0 : decode cX8_queuedAt 0 = .ok (.aload_n 0, 1) := by decide +kernel
theorem dX8_queuedAt_1 : decode cX8_queuedAt 1 = .ok (.iload_n 1, 1) := by decide +kernel
theorem dX8_queuedAt_2 : decode cX8_queuedAt 2 = .ok (.iload_n 2, 1) := by decide +kernel
theorem dX8_queuedAt_3 : decode cX8_queuedAt 3 = .ok (.aconst_null, 1) := by decide +kernel
theorem dX8_queuedAt_4 : decode cX8_queuedAt 4 = .ok (.invokevirtual 80, 3) := by decide +kernel
theorem dX8_queuedAt_7 : decode cX8_queuedAt 7 = .ok (.astore 4, 2) := by decide +kernel
theorem dX8_queuedAt_9 : decode cX8_queuedAt 9 = .ok (.iconst 0, 1) := by decide +kernel
theorem dX8_queuedAt_10 : decode cX8_queuedAt 10 = .ok (.istore 5, 2) := by decide +kernel
theorem dX8_queuedAt_12 : decode cX8_queuedAt 12 = .ok (.iload 5, 2) := by decide +kernel
theorem dX8_queuedAt_14 : decode cX8_queuedAt 14 = .ok (.iload_n 3, 1) := by decide +kernel
theorem dX8_queuedAt_15 : decode cX8_queuedAt 15 = .ok (.bipush 60, 2) := by decide +kernel
theorem dX8_queuedAt_17 : decode cX8_queuedAt 17 = .ok (.invokestatic 84, 3) := by decide +kernel
theorem dX8_queuedAt_20 : decode cX8_queuedAt 20 = .ok (.if_icmp .ge 24, 3) := by decide +kernel
theorem dX8_queuedAt_23 : decode cX8_queuedAt 23 = .ok (.aload 4, 2) := by decide +kernel
theorem dX8_queuedAt_25 : decode cX8_queuedAt 25 = .ok (.ifnull 19, 3) := by decide +kernel
theorem dX8_queuedAt_28 : decode cX8_queuedAt 28 = .ok (.aload_n 0, 1) := by decide +kernel
theorem dX8_queuedAt_29 : decode cX8_queuedAt 29 = .ok (.iload_n 1, 1) := by decide +kernel
theorem dX8_queuedAt_30 : decode cX8_queuedAt 30 = .ok (.iload_n 2, 1) := by decide +kernel
theorem dX8_queuedAt_31 : decode cX8_queuedAt 31 = .ok (.aload 4, 2) := by decide +kernel
theorem dX8_queuedAt_33 : decode cX8_queuedAt 33 = .ok (.invokevirtual 80, 3) := by decide +kernel
theorem dX8_queuedAt_36 : decode cX8_queuedAt 36 = .ok (.astore 4, 2) := by decide +kernel
theorem dX8_queuedAt_38 : decode cX8_queuedAt 38 = .ok (.iinc 5 1, 3) := by decide +kernel
theorem dX8_queuedAt_41 : decode cX8_queuedAt 41 = .ok (.goto (-29), 3) := by decide +kernel
theorem dX8_queuedAt_44 : decode cX8_queuedAt 44 = .ok (.aload 4, 2) := by decide +kernel
theorem dX8_queuedAt_46 : decode cX8_queuedAt 46 = .ok (.ifnonnull 7, 3) := by decide +kernel
theorem dX8_queuedAt_49 : decode cX8_queuedAt 49 = .ok (.iconst (-1), 1) := by decide +kernel
theorem dX8_queuedAt_50 : decode cX8_queuedAt 50 = .ok (.goto 8, 3) := by decide +kernel
theorem dX8_queuedAt_53 : decode cX8_queuedAt 53 = .ok (.aload 4, 2) := by decide +kernel
theorem dX8_queuedAt_55 : decode cX8_queuedAt 55 = .ok (.getfield 90, 3) := by decide +kernel
theorem dX8_queuedAt_58 : decode cX8_queuedAt 58 = .ok (.ireturn, 1) := by decide +kernel
theorem dX8_feesOf_0 : decode cX8_feesOf 0 = .ok (.iconst 0, 1) := by decide +kernel
theorem dX8_feesOf_1 : decode cX8_feesOf 1 = .ok (.istore 4, 2) := by decide +kernel
theorem dX8_feesOf_3 : decode cX8_feesOf 3 = .ok (.iconst 0, 1) := by decide +kernel
theorem dX8_feesOf_4 : decode cX8_feesOf 4 = .ok (.istore 5, 2) := by decide +kernel
theorem dX8_feesOf_6 : decode cX8_feesOf 6 = .ok (.iload 5, 2) := by decide +kernel
theorem dX8_feesOf_8 : decode cX8_feesOf 8 = .ok (.aload_n 0, 1) := by decide +kernel
theorem dX8_feesOf_9 : decode cX8_feesOf 9 = .ok (.getfield 12, 3) := by decide +kernel
theorem dX8_feesOf_12 : decode cX8_feesOf 12 = .ok (.invokevirtual 33, 3) := by decide +kernel
theorem dX8_feesOf_15 : decode cX8_feesOf 15 = .ok (.if_icmp .ge 75, 3) := by decide +kernel
theorem dX8_feesOf_18 : decode cX8_feesOf 18 = .ok (.aload_n 0, 1) := by decide +kernel
theorem dX8_feesOf_19 : decode cX8_feesOf 19 = .ok (.getfield 12, 3) := by decide +kernel
theorem dX8_feesOf_22 : decode cX8_feesOf 22 = .ok (.iload 5, 2) := by decide +kernel
theorem dX8_feesOf_24 : decode cX8_feesOf 24 = .ok (.invokevirtual 37, 3) := by decide +kernel
theorem dX8_feesOf_27 : decode cX8_feesOf 27 = .ok (.checkcast 41, 3) := by decide +kernel
theorem dX8_feesOf_30 : decode cX8_feesOf 30 = .ok (.astore 6, 2) := by decide +kernel
theorem dX8_feesOf_32 : decode cX8_feesOf 32 = .ok (.aload 6, 2) := by decide +kernel
theorem dX8_feesOf_34 : decode cX8_feesOf 34 = .ok (.iconst 4, 1) := by decide +kernel
theorem dX8_feesOf_35 : decode cX8_feesOf 35 = .ok (.iload_n 2, 1) := by decide +kernel
theorem dX8_feesOf_36 : decode cX8_feesOf 36 = .ok (.invokevirtual 62, 3) := by decide +kernel
theorem dX8_feesOf_39 : decode cX8_feesOf 39 = .ok (.ifCond .eq 45, 3) := by decide +kernel
theorem dX8_feesOf_42 : decode cX8_feesOf 42 = .ok (.aload 6, 2) := by decide +kernel
theorem dX8_feesOf_44 : decode cX8_feesOf 44 = .ok (.getfield 66, 3) := by decide +kernel
theorem dX8_feesOf_47 : decode cX8_feesOf 47 = .ok (.getfield 70, 3) := by decide +kernel
theorem dX8_feesOf_50 : decode cX8_feesOf 50 = .ok (.iload_n 1, 1) := by decide +kernel
theorem dX8_feesOf_51 : decode cX8_feesOf 51 = .ok (.if_icmp .ne 33, 3) := by decide +kernel
theorem dX8_feesOf_54 : decode cX8_feesOf 54 = .ok (.aload 6, 2) := by decide +kernel
theorem dX8_feesOf_56 : decode cX8_feesOf 56 = .ok (.getfield 93, 3) := by decide +kernel
theorem dX8_feesOf_59 : decode cX8_feesOf 59 = .ok (.iload_n 3, 1) := by decide +kernel
theorem dX8_feesOf_60 : decode cX8_feesOf 60 = .ok (.if_icmp .ne 24, 3) := by decide +kernel
theorem dX8_feesOf_63 : decode cX8_feesOf 63 = .ok (.iload 4, 2) := by decide +kernel
theorem dX8_feesOf_65 : decode cX8_feesOf 65 = .ok (.aload 6, 2) := by decide +kernel
theorem dX8_feesOf_67 : decode cX8_feesOf 67 = .ok (.getfield 66, 3) := by decide +kernel
theorem dX8_feesOf_70 : decode cX8_feesOf 70 = .ok (.getfield 96, 3) := by decide +kernel
theorem dX8_feesOf_73 : decode cX8_feesOf 73 = .ok (.ifCond .eq 7, 3) := by decide +kernel
theorem dX8_feesOf_76 : decode cX8_feesOf 76 = .ok (.iconst 2, 1) := by decide +kernel
theorem dX8_feesOf_77 : decode cX8_feesOf 77 = .ok (.goto 4, 3) := by decide +kernel
theorem dX8_feesOf_80 : decode cX8_feesOf 80 = .ok (.iconst 1, 1) := by decide +kernel
theorem dX8_feesOf_81 : decode cX8_feesOf 81 = .ok (.iadd, 1) := by decide +kernel
theorem dX8_feesOf_82 : decode cX8_feesOf 82 = .ok (.istore 4, 2) := by decide +kernel
theorem dX8_feesOf_84 : decode cX8_feesOf 84 = .ok (.iinc 5 1, 3) := by decide +kernel
theorem dX8_feesOf_87 : decode cX8_feesOf 87 = .ok (.goto (-81), 3) := by decide +kernel
theorem dX8_feesOf_90 : decode cX8_feesOf 90 = .ok (.iload 4, 2) := by decide +kernel
theorem dX8_feesOf_92 : decode cX8_feesOf 92 = .ok (.ireturn, 1) := by decide +kernel
theorem dX9_init_0 : decode cX9_init 0 = .ok (.aload_n 0, 1) := by decide +kernel
theorem dX9_init_1 : decode cX9_init 1 = .ok (.invokespecial 1, 3) := by decide +kernel
theorem dX9_init_4 : decode cX9_init 4 = .ok (.aload_n 0, 1) := by decide +kernel
theorem dX9_init_5 : decode cX9_init 5 = .ok (.iload_n 1, 1) := by decide +kernel
theorem dX9_init_6 : decode cX9_init 6 = .ok (.iconst 0, 1) := by decide +kernel
theorem dX9_init_7 : decode cX9_init 7 = .ok (.invokestatic 7, 3) := by decide +kernel
theorem dX9_init_10 : decode cX9_init 10 = .ok (.newarray .long, 2) := by decide +kernel
theorem dX9_init_12 : decode cX9_init 12 = .ok (.putfield 13, 3) := by decide +kernel
theorem dX9_init_15 : decode cX9_init 15 = .ok (.return_, 1) := by decide +kernel
theorem dX9_at_0 : decode cX9_at 0 = .ok (.iload_n 1, 1) := by decide +kernel
theorem dX9_at_1 : decode cX9_at 1 = .ok (.ifCond .lt 21, 3) := by decide +kernel
theorem dX9_at_4 : decode cX9_at 4 = .ok (.iload_n 1, 1) := by decide +kernel
theorem dX9_at_5 : decode cX9_at 5 = .ok (.aload_n 0, 1) := by decide +kernel
theorem dX9_at_6 : decode cX9_at 6 = .ok (.getfield 13, 3) := by decide +kernel
theorem dX9_at_9 : decode cX9_at 9 = .ok (.arraylength, 1) := by decide +kernel
theorem dX9_at_10 : decode cX9_at 10 = .ok (.if_icmp .ge 12, 3) := by decide +kernel
theorem dX9_at_13 : decode cX9_at 13 = .ok (.aload_n 0, 1) := by decide +kernel
theorem dX9_at_14 : decode cX9_at 14 = .ok (.getfield 13, 3) := by decide +kernel
theorem dX9_at_17 : decode cX9_at 17 = .ok (.iload_n 1, 1) := by decide +kernel
theorem dX9_at_18 : decode cX9_at 18 = .ok (.laload, 1) := by decide +kernel
theorem dX9_at_19 : decode cX9_at 19 = .ok (.goto 4, 3) := by decide +kernel
theorem dX9_at_22 : decode cX9_at 22 = .ok (.lconst 0, 1) := by decide +kernel
theorem dX9_at_23 : decode cX9_at 23 = .ok (.lreturn, 1) := by decide +kernel
theorem dX9_isSet_0 : decode cX9_isSet 0 = .ok (.iload_n 1, 1) := by decide +kernel
theorem dX9_isSet_1 : decode cX9_isSet 1 = .ok (.ifCond .lt 27, 3) := by decide +kernel
theorem dX9_isSet_4 : decode cX9_isSet 4 = .ok (.iload_n 1, 1) := by decide +kernel
theorem dX9_isSet_5 : decode cX9_isSet 5 = .ok (.aload_n 0, 1) := by decide +kernel
theorem dX9_isSet_6 : decode cX9_isSet 6 = .ok (.getfield 13, 3) := by decide +kernel
theorem dX9_isSet_9 : decode cX9_isSet 9 = .ok (.arraylength, 1) := by decide +kernel
theorem dX9_isSet_10 : decode cX9_isSet 10 = .ok (.if_icmp .ge 18, 3) := by decide +kernel
theorem dX9_isSet_13 : decode cX9_isSet 13 = .ok (.aload_n 0, 1) := by decide +kernel
theorem dX9_isSet_14 : decode cX9_isSet 14 = .ok (.getfield 13, 3) := by decide +kernel
theorem dX9_isSet_17 : decode cX9_isSet 17 = .ok (.iload_n 1, 1) := by decide +kernel
theorem dX9_isSet_18 : decode cX9_isSet 18 = .ok (.laload, 1) := by decide +kernel
theorem dX9_isSet_19 : decode cX9_isSet 19 = .ok (.lconst 0, 1) := by decide +kernel
theorem dX9_isSet_20 : decode cX9_isSet 20 = .ok (.lcmp, 1) := by decide +kernel
theorem dX9_isSet_21 : decode cX9_isSet 21 = .ok (.ifCond .eq 7, 3) := by decide +kernel
theorem dX9_isSet_24 : decode cX9_isSet 24 = .ok (.iconst 1, 1) := by decide +kernel
theorem dX9_isSet_25 : decode cX9_isSet 25 = .ok (.goto 4, 3) := by decide +kernel
theorem dX9_isSet_28 : decode cX9_isSet 28 = .ok (.iconst 0, 1) := by decide +kernel
theorem dX9_isSet_29 : decode cX9_isSet 29 = .ok (.ireturn, 1) := by decide +kernel
theorem dX9_put_0 : decode cX9_put 0 = .ok (.iload_n 1, 1) := by decide +kernel
theorem dX9_put_1 : decode cX9_put 1 = .ok (.ifCond .lt 19, 3) := by decide +kernel
theorem dX9_put_4 : decode cX9_put 4 = .ok (.iload_n 1, 1) := by decide +kernel
theorem dX9_put_5 : decode cX9_put 5 = .ok (.aload_n 0, 1) := by decide +kernel
theorem dX9_put_6 : decode cX9_put 6 = .ok (.getfield 13, 3) := by decide +kernel
theorem dX9_put_9 : decode cX9_put 9 = .ok (.arraylength, 1) := by decide +kernel
theorem dX9_put_10 : decode cX9_put 10 = .ok (.if_icmp .ge 10, 3) := by decide +kernel
theorem dX9_put_13 : decode cX9_put 13 = .ok (.aload_n 0, 1) := by decide +kernel
theorem dX9_put_14 : decode cX9_put 14 = .ok (.getfield 13, 3) := by decide +kernel
theorem dX9_put_17 : decode cX9_put 17 = .ok (.iload_n 1, 1) := by decide +kernel
theorem dX9_put_18 : decode cX9_put 18 = .ok (.lload_n 2, 1) := by decide +kernel
theorem dX9_put_19 : decode cX9_put 19 = .ok (.lastore, 1) := by decide +kernel
theorem dX9_put_20 : decode cX9_put 20 = .ok (.return_, 1) := by decide +kernel
theorem dX9_add_0 : decode cX9_add 0 = .ok (.iload_n 1, 1) := by decide +kernel
theorem dX9_add_1 : decode cX9_add 1 = .ok (.ifCond .lt 22, 3) := by decide +kernel
theorem dX9_add_4 : decode cX9_add 4 = .ok (.iload_n 1, 1) := by decide +kernel
theorem dX9_add_5 : decode cX9_add 5 = .ok (.aload_n 0, 1) := by decide +kernel
theorem dX9_add_6 : decode cX9_add 6 = .ok (.getfield 13, 3) := by decide +kernel
theorem dX9_add_9 : decode cX9_add 9 = .ok (.arraylength, 1) := by decide +kernel
theorem dX9_add_10 : decode cX9_add 10 = .ok (.if_icmp .ge 13, 3) := by decide +kernel
theorem dX9_add_13 : decode cX9_add 13 = .ok (.aload_n 0, 1) := by decide +kernel
theorem dX9_add_14 : decode cX9_add 14 = .ok (.getfield 13, 3) := by decide +kernel
theorem dX9_add_17 : decode cX9_add 17 = .ok (.iload_n 1, 1) := by decide +kernel
theorem dX9_add_18 : decode cX9_add 18 = .ok (.dup2, 1) := by decide +kernel
theorem dX9_add_19 : decode cX9_add 19 = .ok (.laload, 1) := by decide +kernel
theorem dX9_add_20 : decode cX9_add 20 = .ok (.lload_n 2, 1) := by decide +kernel
theorem dX9_add_21 : decode cX9_add 21 = .ok (.ladd, 1) := by decide +kernel
theorem dX9_add_22 : decode cX9_add 22 = .ok (.lastore, 1) := by decide +kernel
theorem dX9_add_23 : decode cX9_add 23 = .ok (.return_, 1) := by decide +kernel
theorem dX9_mark_0 : decode cX9_mark 0 = .ok (.aload_n 0, 1) := by decide +kernel
theorem dX9_mark_1 : decode cX9_mark 1 = .ok (.iload_n 1, 1) := by decide +kernel
theorem dX9_mark_2 : decode cX9_mark 2 = .ok (.iload_n 2, 1) := by decide +kernel
theorem dX9_mark_3 : decode cX9_mark 3 = .ok (.ifCond .eq 7, 3) := by decide +kernel
theorem dX9_mark_6 : decode cX9_mark 6 = .ok (.lconst 1, 1) := by decide +kernel
theorem dX9_mark_7 : decode cX9_mark 7 = .ok (.goto 4, 3) := by decide +kernel
theorem dX9_mark_10 : decode cX9_mark 10 = .ok (.lconst 0, 1) := by decide +kernel
theorem dX9_mark_11 : decode cX9_mark 11 = .ok (.invokevirtual 19, 3) := by decide +kernel
theorem dX9_mark_14 : decode cX9_mark 14 = .ok (.return_, 1) := by decide +kernel
theorem dX9_fill_0 : decode cX9_fill 0 = .ok (.iconst 0, 1) := by decide +kernel
theorem dX9_fill_1 : decode cX9_fill 1 = .ok (.istore_n 3, 1) := by decide +kernel
theorem dX9_fill_2 : decode cX9_fill 2 = .ok (.iload_n 3, 1) := by decide +kernel
theorem dX9_fill_3 : decode cX9_fill 3 = .ok (.aload_n 0, 1) := by decide +kernel
theorem dX9_fill_4 : decode cX9_fill 4 = .ok (.getfield 13, 3) := by decide +kernel
theorem dX9_fill_7 : decode cX9_fill 7 = .ok (.arraylength, 1) := by decide +kernel
theorem dX9_fill_8 : decode cX9_fill 8 = .ok (.if_icmp .ge 16, 3) := by decide +kernel
theorem dX9_fill_11 : decode cX9_fill 11 = .ok (.aload_n 0, 1) := by decide +kernel
theorem dX9_fill_12 : decode cX9_fill 12 = .ok (.getfield 13, 3) := by decide +kernel
theorem dX9_fill_15 : decode cX9_fill 15 = .ok (.iload_n 3, 1) := by decide +kernel
theorem dX9_fill_16 : decode cX9_fill 16 = .ok (.lload_n 1, 1) := by decide +kernel
theorem dX9_fill_17 : decode cX9_fill 17 = .ok (.lastore, 1) := by decide +kernel
theorem dX9_fill_18 : decode cX9_fill 18 = .ok (.iinc 3 1, 3) := by decide +kernel
theorem dX9_fill_21 : decode cX9_fill 21 = .ok (.goto (-19), 3) := by decide +kernel
theorem dX9_fill_24 : decode cX9_fill 24 = .ok (.return_, 1) := by decide +kernel
theorem dX10_init_0 : decode cX10_init 0 = .ok (.aload_n 0, 1) := by decide +kernel
theorem dX10_init_1 : decode cX10_init 1 = .ok (.invokespecial 1, 3) := by decide +kernel
theorem dX10_init_4 : decode cX10_init 4 = .ok (.aload_n 0, 1) := by decide +kernel
theorem dX10_init_5 : decode cX10_init 5 = .ok (.iload_n 1, 1) := by decide +kernel
theorem dX10_init_6 : decode cX10_init 6 = .ok (.putfield 7, 3) := by decide +kernel
theorem dX10_init_9 : decode cX10_init 9 = .ok (.aload_n 0, 1) := by decide +kernel
theorem dX10_init_10 : decode cX10_init 10 = .ok (.iload_n 2, 1) := by decide +kernel
theorem dX10_init_11 : decode cX10_init 11 = .ok (.putfield 13, 3) := by decide +kernel
theorem dX10_init_14 : decode cX10_init 14 = .ok (.aload_n 0, 1) := by decide +kernel
theorem dX10_init_15 : decode cX10_init 15 = .ok (.iload_n 3, 1) := by decide +kernel
theorem dX10_init_16 : decode cX10_init 16 = .ok (.putfield 16, 3) := by decide +kernel
theorem dX10_init_19 : decode cX10_init 19 = .ok (.aload_n 0, 1) := by decide +kernel
theorem dX10_init_20 : decode cX10_init 20 = .ok (.iload 4, 2) := by decide +kernel
theorem dX10_init_22 : decode cX10_init 22 = .ok (.putfield 19, 3) := by decide +kernel
theorem dX10_init_25 : decode cX10_init 25 = .ok (.return_, 1) := by decide +kernel
theorem dX10_arrange_0 : decode cX10_arrange 0 = .ok (.aload_n 0, 1) := by decide +kernel
theorem dX10_arrange_1 : decode cX10_arrange 1 = .ok (.iload_n 1, 1) := by decide +kernel
theorem dX10_arrange_2 : decode cX10_arrange 2 = .ok (.putfield 22, 3) := by decide +kernel
theorem dX10_arrange_5 : decode cX10_arrange 5 = .ok (.aload_n 0, 1) := by decide +kernel
theorem dX10_arrange_6 : decode cX10_arrange 6 = .ok (.iload_n 2, 1) := by decide +kernel
theorem dX10_arrange_7 : decode cX10_arrange 7 = .ok (.putfield 25, 3) := by decide +kernel
theorem dX10_arrange_10 : decode cX10_arrange 10 = .ok (.aload_n 0, 1) := by decide +kernel
theorem dX10_arrange_11 : decode cX10_arrange 11 = .ok (.iload_n 3, 1) := by decide +kernel
theorem dX10_arrange_12 : decode cX10_arrange 12 = .ok (.putfield 28, 3) := by decide +kernel
theorem dX10_arrange_15 : decode cX10_arrange 15 = .ok (.aload_n 0, 1) := by decide +kernel
theorem dX10_arrange_16 : decode cX10_arrange 16 = .ok (.iload 4, 2) := by decide +kernel
theorem dX10_arrange_18 : decode cX10_arrange 18 = .ok (.putfield 32, 3) := by decide +kernel
theorem dX10_arrange_21 : decode cX10_arrange 21 = .ok (.aload_n 0, 1) := by decide +kernel
theorem dX10_arrange_22 : decode cX10_arrange 22 = .ok (.iload 5, 2) := by decide +kernel
theorem dX10_arrange_24 : decode cX10_arrange 24 = .ok (.putfield 35, 3) := by decide +kernel
theorem dX10_arrange_27 : decode cX10_arrange 27 = .ok (.return_, 1) := by decide +kernel
theorem dX10_isLike_0 : decode cX10_isLike 0 = .ok (.aload_n 0, 1) := by decide +kernel
theorem dX10_isLike_1 : decode cX10_isLike 1 = .ok (.getfield 7, 3) := by decide +kernel
theorem dX10_isLike_4 : decode cX10_isLike 4 = .ok (.aload_n 1, 1) := by decide +kernel
theorem dX10_isLike_5 : decode cX10_isLike 5 = .ok (.getfield 7, 3) := by decide +kernel
theorem dX10_isLike_8 : decode cX10_isLike 8 = .ok (.if_icmp .ne 95, 3) := by decide +kernel
theorem dX10_isLike_11 : decode cX10_isLike 11 = .ok (.aload_n 0, 1) := by decide +kernel
theorem dX10_isLike_12 : decode cX10_isLike 12 = .ok (.getfield 13, 3) := by decide +kernel
theorem dX10_isLike_15 : decode cX10_isLike 15 = .ok (.aload_n 1, 1) := by decide +kernel
theorem dX10_isLike_16 : decode cX10_isLike 16 = .ok (.getfield 13, 3) := by decide +kernel
theorem dX10_isLike_19 : decode cX10_isLike 19 = .ok (.if_icmp .ne 84, 3) := by decide +kernel
theorem dX10_isLike_22 : decode cX10_isLike 22 = .ok (.aload_n 0, 1) := by decide +kernel
theorem dX10_isLike_23 : decode cX10_isLike 23 = .ok (.getfield 16, 3) := by decide +kernel
theorem dX10_isLike_26 : decode cX10_isLike 26 = .ok (.aload_n 1, 1) := by decide +kernel
theorem dX10_isLike_27 : decode cX10_isLike 27 = .ok (.getfield 16, 3) := by decide +kernel
theorem dX10_isLike_30 : decode cX10_isLike 30 = .ok (.if_icmp .ne 73, 3) := by decide +kernel
theorem dX10_isLike_33 : decode cX10_isLike 33 = .ok (.aload_n 0, 1) := by decide +kernel
theorem dX10_isLike_34 : decode cX10_isLike 34 = .ok (.getfield 19, 3) := by decide +kernel
theorem dX10_isLike_37 : decode cX10_isLike 37 = .ok (.aload_n 1, 1) := by decide +kernel
theorem dX10_isLike_38 : decode cX10_isLike 38 = .ok (.getfield 19, 3) := by decide +kernel
theorem dX10_isLike_41 : decode cX10_isLike 41 = .ok (.if_icmp .ne 62, 3) := by decide +kernel
theorem dX10_isLike_44 : decode cX10_isLike 44 = .ok (.aload_n 0, 1) := by decide +kernel
theorem dX10_isLike_45 : decode cX10_isLike 45 = .ok (.getfield 22, 3) := by decide +kernel
theorem dX10_isLike_48 : decode cX10_isLike 48 = .ok (.aload_n 1, 1) := by decide +kernel
theorem dX10_isLike_49 : decode cX10_isLike 49 = .ok (.getfield 22, 3) := by decide +kernel
theorem dX10_isLike_52 : decode cX10_isLike 52 = .ok (.if_icmp .ne 51, 3) := by decide +kernel
theorem dX10_isLike_55 : decode cX10_isLike 55 = .ok (.aload_n 0, 1) := by decide +kernel
theorem dX10_isLike_56 : decode cX10_isLike 56 = .ok (.getfield 25, 3) := by decide +kernel
theorem dX10_isLike_59 : decode cX10_isLike 59 = .ok (.aload_n 1, 1) := by decide +kernel
theorem dX10_isLike_60 : decode cX10_isLike 60 = .ok (.getfield 25, 3) := by decide +kernel
theorem dX10_isLike_63 : decode cX10_isLike 63 = .ok (.if_icmp .ne 40, 3) := by decide +kernel
theorem dX10_isLike_66 : decode cX10_isLike 66 = .ok (.aload_n 0, 1) := by decide +kernel
theorem dX10_isLike_67 : decode cX10_isLike 67 = .ok (.getfield 28, 3) := by decide +kernel
theorem dX10_isLike_70 : decode cX10_isLike 70 = .ok (.aload_n 1, 1) := by decide +kernel
theorem dX10_isLike_71 : decode cX10_isLike 71 = .ok (.getfield 28, 3) := by decide +kernel
theorem dX10_isLike_74 : decode cX10_isLike 74 = .ok (.if_icmp .ne 29, 3) := by decide +kernel
theorem dX10_isLike_77 : decode cX10_isLike 77 = .ok (.aload_n 0, 1) := by decide +kernel
theorem dX10_isLike_78 : decode cX10_isLike 78 = .ok (.getfield 32, 3) := by decide +kernel
theorem dX10_isLike_81 : decode cX10_isLike 81 = .ok (.aload_n 1, 1) := by decide +kernel
theorem dX10_isLike_82 : decode cX10_isLike 82 = .ok (.getfield 32, 3) := by decide +kernel
theorem dX10_isLike_85 : decode cX10_isLike 85 = .ok (.if_icmp .ne 18, 3) := by decide +kernel
theorem dX10_isLike_88 : decode cX10_isLike 88 = .ok (.aload_n 0, 1) := by decide +kernel
theorem dX10_isLike_89 : decode cX10_isLike 89 = .ok (.getfield 35, 3) := by decide +kernel
theorem dX10_isLike_92 : decode cX10_isLike 92 = .ok (.aload_n 1, 1) := by decide +kernel
theorem dX10_isLike_93 : decode cX10_isLike 93 = .ok (.getfield 35, 3) := by decide +kernel
theorem dX10_isLike_96 : decode cX10_isLike 96 = .ok (.if_icmp .ne 7, 3) := by decide +kernel
theorem dX10_isLike_99 : decode cX10_isLike 99 = .ok (.iconst 1, 1) := by decide +kernel
theorem dX10_isLike_100 : decode cX10_isLike 100 = .ok (.goto 4, 3) := by decide +kernel
theorem dX10_isLike_103 : decode cX10_isLike 103 = .ok (.iconst 0, 1) := by decide +kernel
theorem dX10_isLike_104 : decode cX10_isLike 104 = .ok (.ireturn, 1) := by decide +kernel
theorem dX10_isWayBackOf_0 : decode cX10_isWayBackOf 0 = .ok (.aload_n 0, 1) := by decide +kernel
theorem dX10_isWayBackOf_1 : decode cX10_isWayBackOf 1 = .ok (.getfield 7, 3) := by decide +kernel
theorem dX10_isWayBackOf_4 : decode cX10_isWayBackOf 4 = .ok (.aload_n 1, 1) := by decide +kernel
theorem dX10_isWayBackOf_5 : decode cX10_isWayBackOf 5 = .ok (.getfield 13, 3) := by decide +kernel
theorem dX10_isWayBackOf_8 : decode cX10_isWayBackOf 8 = .ok (.if_icmp .ne 18, 3) := by decide +kernel
theorem dX10_isWayBackOf_11 : decode cX10_isWayBackOf 11 = .ok (.aload_n 0, 1) := by decide +kernel
theorem dX10_isWayBackOf_12 : decode cX10_isWayBackOf 12 = .ok (.getfield 13, 3) := by decide +kernel
theorem dX10_isWayBackOf_15 : decode cX10_isWayBackOf 15 = .ok (.aload_n 1, 1) := by decide +kernel
theorem dX10_isWayBackOf_16 : decode cX10_isWayBackOf 16 = .ok (.getfield 7, 3) := by decide +kernel
theorem dX10_isWayBackOf_19 : decode cX10_isWayBackOf 19 = .ok (.if_icmp .ne 7, 3) := by decide +kernel
theorem dX10_isWayBackOf_22 : decode cX10_isWayBackOf 22 = .ok (.iconst 1, 1) := by decide +kernel
theorem dX10_isWayBackOf_23 : decode cX10_isWayBackOf 23 = .ok (.goto 4, 3) := by decide +kernel
theorem dX10_isWayBackOf_26 : decode cX10_isWayBackOf 26 = .ok (.iconst 0, 1) := by decide +kernel
theorem dX10_isWayBackOf_27 : decode cX10_isWayBackOf 27 = .ok (.ireturn, 1) := by decide +kernel
theorem dX11_init_0 : decode cX11_init 0 = .ok (.aload_n 0, 1) := by decide +kernel
theorem dX11_init_1 : decode cX11_init 1 = .ok (.invokespecial 1, 3) := by decide +kernel
theorem dX11_init_4 : decode cX11_init 4 = .ok (.aload_n 0, 1) := by decide +kernel
theorem dX11_init_5 : decode cX11_init 5 = .ok (.new 7, 3) := by decide +kernel
theorem dX11_init_8 : decode cX11_init 8 = .ok (.dup, 1) := by decide +kernel
theorem dX11_init_9 : decode cX11_init 9 = .ok (.invokespecial 9, 3) := by decide +kernel
theorem dX11_init_12 : decode cX11_init 12 = .ok (.putfield 10, 3) := by decide +kernel
theorem dX11_init_15 : decode cX11_init 15 = .ok (.return_, 1) := by decide +kernel
theorem dX11_fund_0 : decode cX11_fund 0 = .ok (.iload_n 1, 1) := by decide +kernel
theorem dX11_fund_1 : decode cX11_fund 1 = .ok (.bipush 6, 2) := by decide +kernel
theorem dX11_fund_3 : decode cX11_fund 3 = .ok (.invokestatic 16, 3) := by decide +kernel
theorem dX11_fund_6 : decode cX11_fund 6 = .ok (.iload_n 2, 1) := by decide +kernel
theorem dX11_fund_7 : decode cX11_fund 7 = .ok (.iconst 3, 1) := by decide +kernel
theorem dX11_fund_8 : decode cX11_fund 8 = .ok (.invokestatic 16, 3) := by decide +kernel
theorem dX11_fund_11 : decode cX11_fund 11 = .ok (.iload_n 3, 1) := by decide +kernel
theorem dX11_fund_12 : decode cX11_fund 12 = .ok (.iconst 1, 1) := by decide +kernel
theorem dX11_fund_13 : decode cX11_fund 13 = .ok (.ldc 20, 2) := by decide +kernel
theorem dX11_fund_15 : decode cX11_fund 15 = .ok (.invokestatic 21, 3) := by decide +kernel
theorem dX11_fund_18 : decode cX11_fund 18 = .ok (.aload_n 0, 1) := by decide +kernel
theorem dX11_fund_19 : decode cX11_fund 19 = .ok (.getfield 10, 3) := by decide +kernel
theorem dX11_fund_22 : decode cX11_fund 22 = .ok (.getfield 25, 3) := by decide +kernel
theorem dX11_fund_25 : decode cX11_fund 25 = .ok (.iconst (-1), 1) := by decide +kernel
theorem dX11_fund_26 : decode cX11_fund 26 = .ok (.iload_n 1, 1) := by decide +kernel
theorem dX11_fund_27 : decode cX11_fund 27 = .ok (.iload_n 2, 1) := by decide +kernel
theorem dX11_fund_28 : decode cX11_fund 28 = .ok (.iload_n 3, 1) := by decide +kernel
theorem dX11_fund_29 : decode cX11_fund 29 = .ok (.i2l, 1) := by decide +kernel
theorem dX11_fund_30 : decode cX11_fund 30 = .ok (.iconst (-1), 1) := by decide +kernel
theorem dX11_fund_31 : decode cX11_fund 31 = .ok (.invokevirtual 29, 3) := by decide +kernel
theorem dX11_fund_34 : decode cX11_fund 34 = .ok (.aload_n 0, 1) := by decide +kernel
theorem dX11_fund_35 : decode cX11_fund 35 = .ok (.getfield 10, 3) := by decide +kernel
theorem dX11_fund_38 : decode cX11_fund 38 = .ok (.invokevirtual 35, 3) := by decide +kernel
theorem dX11_fund_41 : decode cX11_fund 41 = .ok (.pop, 1) := by decide +kernel
theorem dX11_fund_42 : decode cX11_fund 42 = .ok (.aload_n 0, 1) := by decide +kernel
theorem dX11_fund_43 : decode cX11_fund 43 = .ok (.getfield 10, 3) := by decide +kernel
theorem dX11_fund_46 : decode cX11_fund 46 = .ok (.getfield 25, 3) := by decide +kernel
theorem dX11_fund_49 : decode cX11_fund 49 = .ok (.iload_n 1, 1) := by decide +kernel
theorem dX11_fund_50 : decode cX11_fund 50 = .ok (.iload_n 2, 1) := by decide +kernel
theorem dX11_fund_51 : decode cX11_fund 51 = .ok (.invokevirtual 39, 3) := by decide +kernel
theorem dX11_fund_54 : decode cX11_fund 54 = .ok (.lreturn, 1) := by decide +kernel
theorem dX11_line_0 : decode cX11_line 0 = .ok (.iload_n 1, 1) := by decide +kernel
theorem dX11_line_1 : decode cX11_line 1 = .ok (.bipush 6, 2) := by decide +kernel
theorem dX11_line_3 : decode cX11_line 3 = .ok (.invokestatic 16, 3) := by decide +kernel
theorem dX11_line_6 : decode cX11_line 6 = .ok (.iload_n 2, 1) := by decide +kernel
theorem dX11_line_7 : decode cX11_line 7 = .ok (.iconst 3, 1) := by decide +kernel
theorem dX11_line_8 : decode cX11_line 8 = .ok (.invokestatic 16, 3) := by decide +kernel
theorem dX11_line_11 : decode cX11_line 11 = .ok (.iload_n 3, 1) := by decide +kernel
theorem dX11_line_12 : decode cX11_line 12 = .ok (.iconst 0, 1) := by decide +kernel
theorem dX11_line_13 : decode cX11_line 13 = .ok (.ldc 20, 2) := by decide +kernel
theorem dX11_line_15 : decode cX11_line 15 = .ok (.invokestatic 21, 3) := by decide +kernel
theorem dX11_line_18 : decode cX11_line 18 = .ok (.aload_n 0, 1) := by decide +kernel
theorem dX11_line_19 : decode cX11_line 19 = .ok (.getfield 10, 3) := by decide +kernel
theorem dX11_line_22 : decode cX11_line 22 = .ok (.getfield 25, 3) := by decide +kernel
theorem dX11_line_25 : decode cX11_line 25 = .ok (.iload_n 1, 1) := by decide +kernel
theorem dX11_line_26 : decode cX11_line 26 = .ok (.iload_n 2, 1) := by decide +kernel
theorem dX11_line_27 : decode cX11_line 27 = .ok (.iload_n 3, 1) := by decide +kernel
theorem dX11_line_28 : decode cX11_line 28 = .ok (.invokevirtual 43, 3) := by decide +kernel
theorem dX11_line_31 : decode cX11_line 31 = .ok (.istore 4, 2) := by decide +kernel
theorem dX11_line_33 : decode cX11_line 33 = .ok (.aload_n 0, 1) := by decide +kernel
theorem dX11_line_34 : decode cX11_line 34 = .ok (.getfield 10, 3) := by decide +kernel
