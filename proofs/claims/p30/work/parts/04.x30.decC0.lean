theorem dX0_init_0 : decode cX0_init 0 = .ok (.aload_n 0, 1) := by decide +kernel
theorem dX0_init_1 : decode cX0_init 1 = .ok (.invokespecial 3, 3) := by decide +kernel
theorem dX0_init_4 : decode cX0_init 4 = .ok (.aload_n 0, 1) := by decide +kernel
theorem dX0_init_5 : decode cX0_init 5 = .ok (.new 9, 3) := by decide +kernel
theorem dX0_init_8 : decode cX0_init 8 = .ok (.dup, 1) := by decide +kernel
theorem dX0_init_9 : decode cX0_init 9 = .ok (.invokespecial 11, 3) := by decide +kernel
theorem dX0_init_12 : decode cX0_init 12 = .ok (.putfield 12, 3) := by decide +kernel
theorem dX0_init_15 : decode cX0_init 15 = .ok (.aload_n 0, 1) := by decide +kernel
theorem dX0_init_16 : decode cX0_init 16 = .ok (.new 18, 3) := by decide +kernel
theorem dX0_init_19 : decode cX0_init 19 = .ok (.dup, 1) := by decide +kernel
theorem dX0_init_20 : decode cX0_init 20 = .ok (.bipush 21, 2) := by decide +kernel
theorem dX0_init_22 : decode cX0_init 22 = .ok (.invokespecial 20, 3) := by decide +kernel
theorem dX0_init_25 : decode cX0_init 25 = .ok (.putfield 23, 3) := by decide +kernel
theorem dX0_init_28 : decode cX0_init 28 = .ok (.aload_n 0, 1) := by decide +kernel
theorem dX0_init_29 : decode cX0_init 29 = .ok (.new 18, 3) := by decide +kernel
theorem dX0_init_32 : decode cX0_init 32 = .ok (.dup, 1) := by decide +kernel
theorem dX0_init_33 : decode cX0_init 33 = .ok (.bipush 18, 2) := by decide +kernel
theorem dX0_init_35 : decode cX0_init 35 = .ok (.invokespecial 20, 3) := by decide +kernel
theorem dX0_init_38 : decode cX0_init 38 = .ok (.putfield 27, 3) := by decide +kernel
theorem dX0_init_41 : decode cX0_init 41 = .ok (.aload_n 0, 1) := by decide +kernel
theorem dX0_init_42 : decode cX0_init 42 = .ok (.new 18, 3) := by decide +kernel
theorem dX0_init_45 : decode cX0_init 45 = .ok (.dup, 1) := by decide +kernel
theorem dX0_init_46 : decode cX0_init 46 = .ok (.bipush 108, 2) := by decide +kernel
theorem dX0_init_48 : decode cX0_init 48 = .ok (.invokespecial 20, 3) := by decide +kernel
theorem dX0_init_51 : decode cX0_init 51 = .ok (.putfield 30, 3) := by decide +kernel
theorem dX0_init_54 : decode cX0_init 54 = .ok (.aload_n 0, 1) := by decide +kernel
theorem dX0_init_55 : decode cX0_init 55 = .ok (.new 18, 3) := by decide +kernel
theorem dX0_init_58 : decode cX0_init 58 = .ok (.dup, 1) := by decide +kernel
theorem dX0_init_59 : decode cX0_init 59 = .ok (.bipush 108, 2) := by decide +kernel
theorem dX0_init_61 : decode cX0_init 61 = .ok (.invokespecial 20, 3) := by decide +kernel
theorem dX0_init_64 : decode cX0_init 64 = .ok (.putfield 33, 3) := by decide +kernel
theorem dX0_init_67 : decode cX0_init 67 = .ok (.aload_n 0, 1) := by decide +kernel
theorem dX0_init_68 : decode cX0_init 68 = .ok (.getfield 33, 3) := by decide +kernel
theorem dX0_init_71 : decode cX0_init 71 = .ok (.ldc2_w 36, 3) := by decide +kernel
theorem dX0_init_74 : decode cX0_init 74 = .ok (.invokevirtual 38, 3) := by decide +kernel
theorem dX0_init_77 : decode cX0_init 77 = .ok (.return_, 1) := by decide +kernel
theorem dX0_balanceOf_0 : decode cX0_balanceOf 0 = .ok (.aload_n 0, 1) := by decide +kernel
theorem dX0_balanceOf_1 : decode cX0_balanceOf 1 = .ok (.getfield 23, 3) := by decide +kernel
theorem dX0_balanceOf_4 : decode cX0_balanceOf 4 = .ok (.iload_n 1, 1) := by decide +kernel
theorem dX0_balanceOf_5 : decode cX0_balanceOf 5 = .ok (.iload_n 2, 1) := by decide +kernel
theorem dX0_balanceOf_6 : decode cX0_balanceOf 6 = .ok (.invokestatic 42, 3) := by decide +kernel
theorem dX0_balanceOf_9 : decode cX0_balanceOf 9 = .ok (.invokevirtual 46, 3) := by decide +kernel
theorem dX0_balanceOf_12 : decode cX0_balanceOf 12 = .ok (.lreturn, 1) := by decide +kernel
theorem dX0_paidOf_0 : decode cX0_paidOf 0 = .ok (.aload_n 0, 1) := by decide +kernel
theorem dX0_paidOf_1 : decode cX0_paidOf 1 = .ok (.getfield 30, 3) := by decide +kernel
theorem dX0_paidOf_4 : decode cX0_paidOf 4 = .ok (.iload_n 1, 1) := by decide +kernel
theorem dX0_paidOf_5 : decode cX0_paidOf 5 = .ok (.invokevirtual 46, 3) := by decide +kernel
theorem dX0_paidOf_8 : decode cX0_paidOf 8 = .ok (.lreturn, 1) := by decide +kernel
theorem dX0_changeLine_0 : decode cX0_changeLine 0 = .ok (.iload_n 1, 1) := by decide +kernel
theorem dX0_changeLine_1 : decode cX0_changeLine 1 = .ok (.iload_n 2, 1) := by decide +kernel
theorem dX0_changeLine_2 : decode cX0_changeLine 2 = .ok (.invokestatic 42, 3) := by decide +kernel
theorem dX0_changeLine_5 : decode cX0_changeLine 5 = .ok (.istore 4, 2) := by decide +kernel
theorem dX0_changeLine_7 : decode cX0_changeLine 7 = .ok (.aload_n 0, 1) := by decide +kernel
theorem dX0_changeLine_8 : decode cX0_changeLine 8 = .ok (.getfield 27, 3) := by decide +kernel
theorem dX0_changeLine_11 : decode cX0_changeLine 11 = .ok (.iload 4, 2) := by decide +kernel
theorem dX0_changeLine_13 : decode cX0_changeLine 13 = .ok (.invokevirtual 46, 3) := by decide +kernel
theorem dX0_changeLine_16 : decode cX0_changeLine 16 = .ok (.l2i, 1) := by decide +kernel
theorem dX0_changeLine_17 : decode cX0_changeLine 17 = .ok (.istore 5, 2) := by decide +kernel
theorem dX0_changeLine_19 : decode cX0_changeLine 19 = .ok (.aload_n 0, 1) := by decide +kernel
theorem dX0_changeLine_20 : decode cX0_changeLine 20 = .ok (.getfield 27, 3) := by decide +kernel
theorem dX0_changeLine_23 : decode cX0_changeLine 23 = .ok (.iload 4, 2) := by decide +kernel
theorem dX0_changeLine_25 : decode cX0_changeLine 25 = .ok (.iload_n 3, 1) := by decide +kernel
theorem dX0_changeLine_26 : decode cX0_changeLine 26 = .ok (.i2l, 1) := by decide +kernel
theorem dX0_changeLine_27 : decode cX0_changeLine 27 = .ok (.invokevirtual 50, 3) := by decide +kernel
theorem dX0_changeLine_30 : decode cX0_changeLine 30 = .ok (.iload 5, 2) := by decide +kernel
theorem dX0_changeLine_32 : decode cX0_changeLine 32 = .ok (.ireturn, 1) := by decide +kernel
theorem dX0_changeLimit_0 : decode cX0_changeLimit 0 = .ok (.aload_n 0, 1) := by decide +kernel
theorem dX0_changeLimit_1 : decode cX0_changeLimit 1 = .ok (.getfield 33, 3) := by decide +kernel
theorem dX0_changeLimit_4 : decode cX0_changeLimit 4 = .ok (.iload_n 1, 1) := by decide +kernel
theorem dX0_changeLimit_5 : decode cX0_changeLimit 5 = .ok (.invokevirtual 46, 3) := by decide +kernel
theorem dX0_changeLimit_8 : decode cX0_changeLimit 8 = .ok (.l2i, 1) := by decide +kernel
theorem dX0_changeLimit_9 : decode cX0_changeLimit 9 = .ok (.istore_n 3, 1) := by decide +kernel
theorem dX0_changeLimit_10 : decode cX0_changeLimit 10 = .ok (.aload_n 0, 1) := by decide +kernel
theorem dX0_changeLimit_11 : decode cX0_changeLimit 11 = .ok (.getfield 33, 3) := by decide +kernel
theorem dX0_changeLimit_14 : decode cX0_changeLimit 14 = .ok (.iload_n 1, 1) := by decide +kernel
theorem dX0_changeLimit_15 : decode cX0_changeLimit 15 = .ok (.iload_n 2, 1) := by decide +kernel
theorem dX0_changeLimit_16 : decode cX0_changeLimit 16 = .ok (.i2l, 1) := by decide +kernel
theorem dX0_changeLimit_17 : decode cX0_changeLimit 17 = .ok (.invokevirtual 50, 3) := by decide +kernel
theorem dX0_changeLimit_20 : decode cX0_changeLimit 20 = .ok (.iload_n 3, 1) := by decide +kernel
theorem dX0_changeLimit_21 : decode cX0_changeLimit 21 = .ok (.ireturn, 1) := by decide +kernel
theorem dX0_move_0 : decode cX0_move 0 = .ok (.iload_n 1, 1) := by decide +kernel
theorem dX0_move_1 : decode cX0_move 1 = .ok (.iconst (-1), 1) := by decide +kernel
theorem dX0_move_2 : decode cX0_move 2 = .ok (.if_icmp .eq 18, 3) := by decide +kernel
theorem dX0_move_5 : decode cX0_move 5 = .ok (.aload_n 0, 1) := by decide +kernel
theorem dX0_move_6 : decode cX0_move 6 = .ok (.getfield 23, 3) := by decide +kernel
theorem dX0_move_9 : decode cX0_move 9 = .ok (.iload_n 1, 1) := by decide +kernel
theorem dX0_move_10 : decode cX0_move 10 = .ok (.iload_n 3, 1) := by decide +kernel
theorem dX0_move_11 : decode cX0_move 11 = .ok (.invokestatic 42, 3) := by decide +kernel
theorem dX0_move_14 : decode cX0_move 14 = .ok (.lload 4, 2) := by decide +kernel
theorem dX0_move_16 : decode cX0_move 16 = .ok (.lneg, 1) := by decide +kernel
theorem dX0_move_17 : decode cX0_move 17 = .ok (.invokevirtual 54, 3) := by decide +kernel
theorem dX0_move_20 : decode cX0_move 20 = .ok (.aload_n 0, 1) := by decide +kernel
theorem dX0_move_21 : decode cX0_move 21 = .ok (.getfield 23, 3) := by decide +kernel
theorem dX0_move_24 : decode cX0_move 24 = .ok (.iload_n 2, 1) := by decide +kernel
theorem dX0_move_25 : decode cX0_move 25 = .ok (.iload_n 3, 1) := by decide +kernel
theorem dX0_move_26 : decode cX0_move 26 = .ok (.invokestatic 42, 3) := by decide +kernel
theorem dX0_move_29 : decode cX0_move 29 = .ok (.lload 4, 2) := by decide +kernel
theorem dX0_move_31 : decode cX0_move 31 = .ok (.invokevirtual 54, 3) := by decide +kernel
theorem dX0_move_34 : decode cX0_move 34 = .ok (.aload_n 0, 1) := by decide +kernel
theorem dX0_move_35 : decode cX0_move 35 = .ok (.getfield 12, 3) := by decide +kernel
theorem dX0_move_38 : decode cX0_move 38 = .ok (.new 57, 3) := by decide +kernel
theorem dX0_move_41 : decode cX0_move 41 = .ok (.dup, 1) := by decide +kernel
theorem dX0_move_42 : decode cX0_move 42 = .ok (.iload_n 1, 1) := by decide +kernel
theorem dX0_move_43 : decode cX0_move 43 = .ok (.iload_n 2, 1) := by decide +kernel
theorem dX0_move_44 : decode cX0_move 44 = .ok (.iload_n 3, 1) := by decide +kernel
theorem dX0_move_45 : decode cX0_move 45 = .ok (.lload 4, 2) := by decide +kernel
theorem dX0_move_47 : decode cX0_move 47 = .ok (.iload 6, 2) := by decide +kernel
theorem dX0_move_49 : decode cX0_move 49 = .ok (.invokespecial 59, 3) := by decide +kernel
theorem dX0_move_52 : decode cX0_move 52 = .ok (.invokevirtual 62, 3) := by decide +kernel
theorem dX0_move_55 : decode cX0_move 55 = .ok (.return_, 1) := by decide +kernel
theorem dX0_pay_0 : decode cX0_pay 0 = .ok (.aload_n 0, 1) := by decide +kernel
theorem dX0_pay_1 : decode cX0_pay 1 = .ok (.aload_n 1, 1) := by decide +kernel
theorem dX0_pay_2 : decode cX0_pay 2 = .ok (.getfield 66, 3) := by decide +kernel
theorem dX0_pay_5 : decode cX0_pay 5 = .ok (.aload_n 1, 1) := by decide +kernel
theorem dX0_pay_6 : decode cX0_pay 6 = .ok (.getfield 72, 3) := by decide +kernel
theorem dX0_pay_9 : decode cX0_pay 9 = .ok (.aload_n 1, 1) := by decide +kernel
theorem dX0_pay_10 : decode cX0_pay 10 = .ok (.getfield 75, 3) := by decide +kernel
theorem dX0_pay_13 : decode cX0_pay 13 = .ok (.aload_n 1, 1) := by decide +kernel
theorem dX0_pay_14 : decode cX0_pay 14 = .ok (.getfield 78, 3) := by decide +kernel
theorem dX0_pay_17 : decode cX0_pay 17 = .ok (.i2l, 1) := by decide +kernel
theorem dX0_pay_18 : decode cX0_pay 18 = .ok (.iload_n 2, 1) := by decide +kernel
theorem dX0_pay_19 : decode cX0_pay 19 = .ok (.invokevirtual 81, 3) := by decide +kernel
theorem dX0_pay_22 : decode cX0_pay 22 = .ok (.aload_n 0, 1) := by decide +kernel
theorem dX0_pay_23 : decode cX0_pay 23 = .ok (.getfield 30, 3) := by decide +kernel
theorem dX0_pay_26 : decode cX0_pay 26 = .ok (.aload_n 1, 1) := by decide +kernel
theorem dX0_pay_27 : decode cX0_pay 27 = .ok (.getfield 66, 3) := by decide +kernel
theorem dX0_pay_30 : decode cX0_pay 30 = .ok (.aload_n 1, 1) := by decide +kernel
theorem dX0_pay_31 : decode cX0_pay 31 = .ok (.getfield 72, 3) := by decide +kernel
theorem dX0_pay_34 : decode cX0_pay 34 = .ok (.aload_n 1, 1) := by decide +kernel
theorem dX0_pay_35 : decode cX0_pay 35 = .ok (.getfield 75, 3) := by decide +kernel
theorem dX0_pay_38 : decode cX0_pay 38 = .ok (.invokestatic 84, 3) := by decide +kernel
theorem dX0_pay_41 : decode cX0_pay 41 = .ok (.aload_n 1, 1) := by decide +kernel
theorem dX0_pay_42 : decode cX0_pay 42 = .ok (.getfield 78, 3) := by decide +kernel
theorem dX0_pay_45 : decode cX0_pay 45 = .ok (.i2l, 1) := by decide +kernel
theorem dX0_pay_46 : decode cX0_pay 46 = .ok (.invokevirtual 54, 3) := by decide +kernel
theorem dX0_pay_49 : decode cX0_pay 49 = .ok (.aload_n 0, 1) := by decide +kernel
theorem dX0_pay_50 : decode cX0_pay 50 = .ok (.getfield 30, 3) := by decide +kernel
theorem dX0_pay_53 : decode cX0_pay 53 = .ok (.aload_n 1, 1) := by decide +kernel
theorem dX0_pay_54 : decode cX0_pay 54 = .ok (.getfield 72, 3) := by decide +kernel
theorem dX0_pay_57 : decode cX0_pay 57 = .ok (.aload_n 1, 1) := by decide +kernel
theorem dX0_pay_58 : decode cX0_pay 58 = .ok (.getfield 66, 3) := by decide +kernel
theorem dX0_pay_61 : decode cX0_pay 61 = .ok (.aload_n 1, 1) := by decide +kernel
theorem dX0_pay_62 : decode cX0_pay 62 = .ok (.getfield 75, 3) := by decide +kernel
theorem dX0_pay_65 : decode cX0_pay 65 = .ok (.invokestatic 84, 3) := by decide +kernel
theorem dX0_pay_68 : decode cX0_pay 68 = .ok (.aload_n 1, 1) := by decide +kernel
theorem dX0_pay_69 : decode cX0_pay 69 = .ok (.getfield 78, 3) := by decide +kernel
theorem dX0_pay_72 : decode cX0_pay 72 = .ok (.ineg, 1) := by decide +kernel
theorem dX0_pay_73 : decode cX0_pay 73 = .ok (.i2l, 1) := by decide +kernel
theorem dX0_pay_74 : decode cX0_pay 74 = .ok (.invokevirtual 54, 3) := by decide +kernel
theorem dX0_pay_77 : decode cX0_pay 77 = .ok (.return_, 1) := by decide +kernel
theorem dX0_isTooLowBy_0 : decode cX0_isTooLowBy 0 = .ok (.lload_n 2, 1) := by decide +kernel
theorem dX0_isTooLowBy_1 : decode cX0_isTooLowBy 1 = .ok (.lconst 0, 1) := by decide +kernel
theorem dX0_isTooLowBy_2 : decode cX0_isTooLowBy 2 = .ok (.lcmp, 1) := by decide +kernel
theorem dX0_isTooLowBy_3 : decode cX0_isTooLowBy 3 = .ok (.ifCond .ge 30, 3) := by decide +kernel
theorem dX0_isTooLowBy_6 : decode cX0_isTooLowBy 6 = .ok (.aload_n 0, 1) := by decide +kernel
theorem dX0_isTooLowBy_7 : decode cX0_isTooLowBy 7 = .ok (.getfield 23, 3) := by decide +kernel
theorem dX0_isTooLowBy_10 : decode cX0_isTooLowBy 10 = .ok (.iload_n 1, 1) := by decide +kernel
theorem dX0_isTooLowBy_11 : decode cX0_isTooLowBy 11 = .ok (.invokevirtual 46, 3) := by decide +kernel
theorem dX0_isTooLowBy_14 : decode cX0_isTooLowBy 14 = .ok (.lload_n 2, 1) := by decide +kernel
theorem dX0_isTooLowBy_15 : decode cX0_isTooLowBy 15 = .ok (.ladd, 1) := by decide +kernel
theorem dX0_isTooLowBy_16 : decode cX0_isTooLowBy 16 = .ok (.aload_n 0, 1) := by decide +kernel
theorem dX0_isTooLowBy_17 : decode cX0_isTooLowBy 17 = .ok (.getfield 27, 3) := by decide +kernel
theorem dX0_isTooLowBy_20 : decode cX0_isTooLowBy 20 = .ok (.iload_n 1, 1) := by decide +kernel
theorem dX0_isTooLowBy_21 : decode cX0_isTooLowBy 21 = .ok (.invokevirtual 46, 3) := by decide +kernel
theorem dX0_isTooLowBy_24 : decode cX0_isTooLowBy 24 = .ok (.lneg, 1) := by decide +kernel
theorem dX0_isTooLowBy_25 : decode cX0_isTooLowBy 25 = .ok (.lcmp, 1) := by decide +kernel
theorem dX0_isTooLowBy_26 : decode cX0_isTooLowBy 26 = .ok (.ifCond .ge 7, 3) := by decide +kernel
theorem dX0_isTooLowBy_29 : decode cX0_isTooLowBy 29 = .ok (.iconst 1, 1) := by decide +kernel
theorem dX0_isTooLowBy_30 : decode cX0_isTooLowBy 30 = .ok (.goto 4, 3) := by decide +kernel
theorem dX0_isTooLowBy_33 : decode cX0_isTooLowBy 33 = .ok (.iconst 0, 1) := by decide +kernel
theorem dX0_isTooLowBy_34 : decode cX0_isTooLowBy 34 = .ok (.ireturn, 1) := by decide +kernel
theorem dX0_isPassedBy_0 : decode cX0_isPassedBy 0 = .ok (.aload_n 0, 1) := by decide +kernel
theorem dX0_isPassedBy_1 : decode cX0_isPassedBy 1 = .ok (.getfield 33, 3) := by decide +kernel
theorem dX0_isPassedBy_4 : decode cX0_isPassedBy 4 = .ok (.iload_n 1, 1) := by decide +kernel
theorem dX0_isPassedBy_5 : decode cX0_isPassedBy 5 = .ok (.invokevirtual 46, 3) := by decide +kernel
theorem dX0_isPassedBy_8 : decode cX0_isPassedBy 8 = .ok (.lstore 4, 2) := by decide +kernel
theorem dX0_isPassedBy_10 : decode cX0_isPassedBy 10 = .ok (.lload_n 2, 1) := by decide +kernel
theorem dX0_isPassedBy_11 : decode cX0_isPassedBy 11 = .ok (.lconst 0, 1) := by decide +kernel
theorem dX0_isPassedBy_12 : decode cX0_isPassedBy 12 = .ok (.lcmp, 1) := by decide +kernel
theorem dX0_isPassedBy_13 : decode cX0_isPassedBy 13 = .ok (.ifCond .le 32, 3) := by decide +kernel
theorem dX0_isPassedBy_16 : decode cX0_isPassedBy 16 = .ok (.lload 4, 2) := by decide +kernel
theorem dX0_isPassedBy_18 : decode cX0_isPassedBy 18 = .ok (.ldc2_w 36, 3) := by decide +kernel
theorem dX0_isPassedBy_21 : decode cX0_isPassedBy 21 = .ok (.lcmp, 1) := by decide +kernel
theorem dX0_isPassedBy_22 : decode cX0_isPassedBy 22 = .ok (.ifCond .eq 23, 3) := by decide +kernel
theorem dX0_isPassedBy_25 : decode cX0_isPassedBy 25 = .ok (.aload_n 0, 1) := by decide +kernel
theorem dX0_isPassedBy_26 : decode cX0_isPassedBy 26 = .ok (.getfield 30, 3) := by decide +kernel
theorem dX0_isPassedBy_29 : decode cX0_isPassedBy 29 = .ok (.iload_n 1, 1) := by decide +kernel
theorem dX0_isPassedBy_30 : decode cX0_isPassedBy 30 = .ok (.invokevirtual 46, 3) := by decide +kernel
theorem dX0_isPassedBy_33 : decode cX0_isPassedBy 33 = .ok (.lload_n 2, 1) := by decide +kernel
theorem dX0_isPassedBy_34 : decode cX0_isPassedBy 34 = .ok (.ladd, 1) := by decide +kernel
theorem dX0_isPassedBy_35 : decode cX0_isPassedBy 35 = .ok (.lload 4, 2) := by decide +kernel
theorem dX0_isPassedBy_37 : decode cX0_isPassedBy 37 = .ok (.lcmp, 1) := by decide +kernel
theorem dX0_isPassedBy_38 : decode cX0_isPassedBy 38 = .ok (.ifCond .le 7, 3) := by decide +kernel
theorem dX0_isPassedBy_41 : decode cX0_isPassedBy 41 = .ok (.iconst 1, 1) := by decide +kernel
theorem dX0_isPassedBy_42 : decode cX0_isPassedBy 42 = .ok (.goto 4, 3) := by decide +kernel
theorem dX0_isPassedBy_45 : decode cX0_isPassedBy 45 = .ok (.iconst 0, 1) := by decide +kernel
theorem dX0_isPassedBy_46 : decode cX0_isPassedBy 46 = .ok (.ireturn, 1) := by decide +kernel
theorem dX0_beginDay_0 : decode cX0_beginDay 0 = .ok (.aload_n 0, 1) := by decide +kernel
theorem dX0_beginDay_1 : decode cX0_beginDay 1 = .ok (.getfield 30, 3) := by decide +kernel
theorem dX0_beginDay_4 : decode cX0_beginDay 4 = .ok (.lconst 0, 1) := by decide +kernel
theorem dX0_beginDay_5 : decode cX0_beginDay 5 = .ok (.invokevirtual 38, 3) := by decide +kernel
theorem dX0_beginDay_8 : decode cX0_beginDay 8 = .ok (.return_, 1) := by decide +kernel
theorem dX1_init_0 : decode cX1_init 0 = .ok (.aload_n 0, 1) := by decide +kernel
theorem dX1_init_1 : decode cX1_init 1 = .ok (.invokespecial 3, 3) := by decide +kernel
theorem dX1_init_4 : decode cX1_init 4 = .ok (.aload_n 0, 1) := by decide +kernel
theorem dX1_init_5 : decode cX1_init 5 = .ok (.new 9, 3) := by decide +kernel
theorem dX1_init_8 : decode cX1_init 8 = .ok (.dup, 1) := by decide +kernel
theorem dX1_init_9 : decode cX1_init 9 = .ok (.sipush 360, 3) := by decide +kernel
theorem dX1_init_12 : decode cX1_init 12 = .ok (.invokespecial 11, 3) := by decide +kernel
theorem dX1_init_15 : decode cX1_init 15 = .ok (.putfield 14, 3) := by decide +kernel
theorem dX1_init_18 : decode cX1_init 18 = .ok (.aload_n 0, 1) := by decide +kernel
theorem dX1_init_19 : decode cX1_init 19 = .ok (.new 9, 3) := by decide +kernel
theorem dX1_init_22 : decode cX1_init 22 = .ok (.dup, 1) := by decide +kernel
theorem dX1_init_23 : decode cX1_init 23 = .ok (.bipush 6, 2) := by decide +kernel
theorem dX1_init_25 : decode cX1_init 25 = .ok (.invokespecial 11, 3) := by decide +kernel
theorem dX1_init_28 : decode cX1_init 28 = .ok (.putfield 20, 3) := by decide +kernel
theorem dX1_init_31 : decode cX1_init 31 = .ok (.aload_n 0, 1) := by decide +kernel
theorem dX1_init_32 : decode cX1_init 32 = .ok (.new 9, 3) := by decide +kernel
theorem dX1_init_35 : decode cX1_init 35 = .ok (.dup, 1) := by decide +kernel
theorem dX1_init_36 : decode cX1_init 36 = .ok (.bipush 6, 2) := by decide +kernel
theorem dX1_init_38 : decode cX1_init 38 = .ok (.invokespecial 11, 3) := by decide +kernel
theorem dX1_init_41 : decode cX1_init 41 = .ok (.putfield 23, 3) := by decide +kernel
theorem dX1_init_44 : decode cX1_init 44 = .ok (.aload_n 0, 1) := by decide +kernel
theorem dX1_init_45 : decode cX1_init 45 = .ok (.new 9, 3) := by decide +kernel
theorem dX1_init_48 : decode cX1_init 48 = .ok (.dup, 1) := by decide +kernel
theorem dX1_init_49 : decode cX1_init 49 = .ok (.bipush 6, 2) := by decide +kernel
theorem dX1_init_51 : decode cX1_init 51 = .ok (.invokespecial 11, 3) := by decide +kernel
theorem dX1_init_54 : decode cX1_init 54 = .ok (.putfield 26, 3) := by decide +kernel
theorem dX1_init_57 : decode cX1_init 57 = .ok (.return_, 1) := by decide +kernel
theorem dX1_tell_0 : decode cX1_tell 0 = .ok (.aload_n 0, 1) := by decide +kernel
theorem dX1_tell_1 : decode cX1_tell 1 = .ok (.getfield 20, 3) := by decide +kernel
theorem dX1_tell_4 : decode cX1_tell 4 = .ok (.iload_n 1, 1) := by decide +kernel
theorem dX1_tell_5 : decode cX1_tell 5 = .ok (.invokevirtual 29, 3) := by decide +kernel
theorem dX1_tell_8 : decode cX1_tell 8 = .ok (.ldc2_w 33, 3) := by decide +kernel
theorem dX1_tell_11 : decode cX1_tell 11 = .ok (.lcmp, 1) := by decide +kernel
theorem dX1_tell_12 : decode cX1_tell 12 = .ok (.ifCond .ge 35, 3) := by decide +kernel
theorem dX1_tell_15 : decode cX1_tell 15 = .ok (.aload_n 0, 1) := by decide +kernel
theorem dX1_tell_16 : decode cX1_tell 16 = .ok (.getfield 14, 3) := by decide +kernel
theorem dX1_tell_19 : decode cX1_tell 19 = .ok (.iload_n 1, 1) := by decide +kernel
theorem dX1_tell_20 : decode cX1_tell 20 = .ok (.bipush 60, 2) := by decide +kernel
theorem dX1_tell_22 : decode cX1_tell 22 = .ok (.imul, 1) := by decide +kernel
theorem dX1_tell_23 : decode cX1_tell 23 = .ok (.aload_n 0, 1) := by decide +kernel
theorem dX1_tell_24 : decode cX1_tell 24 = .ok (.getfield 20, 3) := by decide +kernel
theorem dX1_tell_27 : decode cX1_tell 27 = .ok (.iload_n 1, 1) := by decide +kernel
theorem dX1_tell_28 : decode cX1_tell 28 = .ok (.invokevirtual 29, 3) := by decide +kernel
theorem dX1_tell_31 : decode cX1_tell 31 = .ok (.l2i, 1) := by decide +kernel
theorem dX1_tell_32 : decode cX1_tell 32 = .ok (.iadd, 1) := by decide +kernel
theorem dX1_tell_33 : decode cX1_tell 33 = .ok (.iload_n 2, 1) := by decide +kernel
theorem dX1_tell_34 : decode cX1_tell 34 = .ok (.i2l, 1) := by decide +kernel
theorem dX1_tell_35 : decode cX1_tell 35 = .ok (.invokevirtual 35, 3) := by decide +kernel
theorem dX1_tell_38 : decode cX1_tell 38 = .ok (.aload_n 0, 1) := by decide +kernel
theorem dX1_tell_39 : decode cX1_tell 39 = .ok (.getfield 20, 3) := by decide +kernel
theorem dX1_tell_42 : decode cX1_tell 42 = .ok (.iload_n 1, 1) := by decide +kernel
theorem dX1_tell_43 : decode cX1_tell 43 = .ok (.lconst 1, 1) := by decide +kernel
theorem dX1_tell_44 : decode cX1_tell 44 = .ok (.invokevirtual 39, 3) := by decide +kernel
theorem dX1_tell_47 : decode cX1_tell 47 = .ok (.return_, 1) := by decide +kernel
theorem dX1_takeNext_0 : decode cX1_takeNext 0 = .ok (.aload_n 0, 1) := by decide +kernel
theorem dX1_takeNext_1 : decode cX1_takeNext 1 = .ok (.getfield 23, 3) := by decide +kernel
theorem dX1_takeNext_4 : decode cX1_takeNext 4 = .ok (.iload_n 1, 1) := by decide +kernel
theorem dX1_takeNext_5 : decode cX1_takeNext 5 = .ok (.invokevirtual 29, 3) := by decide +kernel
theorem dX1_takeNext_8 : decode cX1_takeNext 8 = .ok (.l2i, 1) := by decide +kernel
theorem dX1_takeNext_9 : decode cX1_takeNext 9 = .ok (.istore_n 2, 1) := by decide +kernel
theorem dX1_takeNext_10 : decode cX1_takeNext 10 = .ok (.iload_n 2, 1) := by decide +kernel
theorem dX1_takeNext_11 : decode cX1_takeNext 11 = .ok (.i2l, 1) := by decide +kernel
theorem dX1_takeNext_12 : decode cX1_takeNext 12 = .ok (.aload_n 0, 1) := by decide +kernel
theorem dX1_takeNext_13 : decode cX1_takeNext 13 = .ok (.getfield 20, 3) := by decide +kernel
theorem dX1_takeNext_16 : decode cX1_takeNext 16 = .ok (.iload_n 1, 1) := by decide +kernel
theorem dX1_takeNext_17 : decode cX1_takeNext 17 = .ok (.invokevirtual 29, 3) := by decide +kernel
theorem dX1_takeNext_20 : decode cX1_takeNext 20 = .ok (.lcmp, 1) := by decide +kernel
theorem dX1_takeNext_21 : decode cX1_takeNext 21 = .ok (.ifCond .lt 5, 3) := by decide +kernel
theorem dX1_takeNext_24 : decode cX1_takeNext 24 = .ok (.iconst (-1), 1) := by decide +kernel
theorem dX1_takeNext_25 : decode cX1_takeNext 25 = .ok (.ireturn, 1) := by decide +kernel
theorem dX1_takeNext_26 : decode cX1_takeNext 26 = .ok (.aload_n 0, 1) := by decide +kernel
theorem dX1_takeNext_27 : decode cX1_takeNext 27 = .ok (.getfield 23, 3) := by decide +kernel
theorem dX1_takeNext_30 : decode cX1_takeNext 30 = .ok (.iload_n 1, 1) := by decide +kernel
theorem dX1_takeNext_31 : decode cX1_takeNext 31 = .ok (.iload_n 2, 1) := by decide +kernel
theorem dX1_takeNext_32 : decode cX1_takeNext 32 = .ok (.iconst 1, 1) := by decide +kernel
theorem dX1_takeNext_33 : decode cX1_takeNext 33 = .ok (.iadd, 1) := by decide +kernel
theorem dX1_takeNext_34 : decode cX1_takeNext 34 = .ok (.i2l, 1) := by decide +kernel
theorem dX1_takeNext_35 : decode cX1_takeNext 35 = .ok (.invokevirtual 35, 3) := by decide +kernel
theorem dX1_takeNext_38 : decode cX1_takeNext 38 = .ok (.aload_n 0, 1) := by decide +kernel
theorem dX1_takeNext_39 : decode cX1_takeNext 39 = .ok (.getfield 26, 3) := by decide +kernel
theorem dX1_takeNext_42 : decode cX1_takeNext 42 = .ok (.iload_n 1, 1) := by decide +kernel
theorem dX1_takeNext_43 : decode cX1_takeNext 43 = .ok (.aload_n 0, 1) := by decide +kernel
theorem dX1_takeNext_44 : decode cX1_takeNext 44 = .ok (.getfield 26, 3) := by decide +kernel
theorem dX1_takeNext_47 : decode cX1_takeNext 47 = .ok (.iload_n 1, 1) := by decide +kernel
theorem dX1_takeNext_48 : decode cX1_takeNext 48 = .ok (.invokevirtual 29, 3) := by decide +kernel
theorem dX1_takeNext_51 : decode cX1_takeNext 51 = .ok (.iload_n 2, 1) := by decide +kernel
theorem dX1_takeNext_52 : decode cX1_takeNext 52 = .ok (.iconst 1, 1) := by decide +kernel
theorem dX1_takeNext_53 : decode cX1_takeNext 53 = .ok (.iadd, 1) := by decide +kernel
theorem dX1_takeNext_54 : decode cX1_takeNext 54 = .ok (.i2l, 1) := by decide +kernel
theorem dX1_takeNext_55 : decode cX1_takeNext 55 = .ok (.invokestatic 42, 3) := by decide +kernel
theorem dX1_takeNext_58 : decode cX1_takeNext 58 = .ok (.invokevirtual 35, 3) := by decide +kernel
theorem dX1_takeNext_61 : decode cX1_takeNext 61 = .ok (.aload_n 0, 1) := by decide +kernel
theorem dX1_takeNext_62 : decode cX1_takeNext 62 = .ok (.getfield 14, 3) := by decide +kernel
theorem dX1_takeNext_65 : decode cX1_takeNext 65 = .ok (.iload_n 1, 1) := by decide +kernel
theorem dX1_takeNext_66 : decode cX1_takeNext 66 = .ok (.bipush 60, 2) := by decide +kernel
theorem dX1_takeNext_68 : decode cX1_takeNext 68 = .ok (.imul, 1) := by decide +kernel
theorem dX1_takeNext_69 : decode cX1_takeNext 69 = .ok (.iload_n 2, 1) := by decide +kernel
theorem dX1_takeNext_70 : decode cX1_takeNext 70 = .ok (.iadd, 1) := by decide +kernel
theorem dX1_takeNext_71 : decode cX1_takeNext 71 = .ok (.invokevirtual 29, 3) := by decide +kernel
theorem dX1_takeNext_74 : decode cX1_takeNext 74 = .ok (.l2i, 1) := by decide +kernel
theorem dX1_takeNext_75 : decode cX1_takeNext 75 = .ok (.ireturn, 1) := by decide +kernel
theorem dX1_mostTaken_0 : decode cX1_mostTaken 0 = .ok (.aload_n 0, 1) := by decide +kernel
theorem dX1_mostTaken_1 : decode cX1_mostTaken 1 = .ok (.getfield 26, 3) := by decide +kernel
theorem dX1_mostTaken_4 : decode cX1_mostTaken 4 = .ok (.iload_n 1, 1) := by decide +kernel
theorem dX1_mostTaken_5 : decode cX1_mostTaken 5 = .ok (.invokevirtual 29, 3) := by decide +kernel
theorem dX1_mostTaken_8 : decode cX1_mostTaken 8 = .ok (.l2i, 1) := by decide +kernel
theorem dX1_mostTaken_9 : decode cX1_mostTaken 9 = .ok (.ireturn, 1) := by decide +kernel
theorem dX1_startFrom_0 : decode cX1_startFrom 0 = .ok (.aload_n 0, 1) := by decide +kernel
theorem dX1_startFrom_1 : decode cX1_startFrom 1 = .ok (.getfield 23, 3) := by decide +kernel
theorem dX1_startFrom_4 : decode cX1_startFrom 4 = .ok (.iload_n 1, 1) := by decide +kernel
theorem dX1_startFrom_5 : decode cX1_startFrom 5 = .ok (.iload_n 2, 1) := by decide +kernel
theorem dX1_startFrom_6 : decode cX1_startFrom 6 = .ok (.i2l, 1) := by decide +kernel
theorem dX1_startFrom_7 : decode cX1_startFrom 7 = .ok (.invokevirtual 35, 3) := by decide +kernel
theorem dX1_startFrom_10 : decode cX1_startFrom 10 = .ok (.aload_n 0, 1) := by decide +kernel
theorem dX1_startFrom_11 : decode cX1_startFrom 11 = .ok (.getfield 20, 3) := by decide +kernel
theorem dX1_startFrom_14 : decode cX1_startFrom 14 = .ok (.iload_n 1, 1) := by decide +kernel
theorem dX1_startFrom_15 : decode cX1_startFrom 15 = .ok (.invokevirtual 29, 3) := by decide +kernel
theorem dX1_startFrom_18 : decode cX1_startFrom 18 = .ok (.l2i, 1) := by decide +kernel
theorem dX1_startFrom_19 : decode cX1_startFrom 19 = .ok (.iload_n 2, 1) := by decide +kernel
theorem dX1_startFrom_20 : decode cX1_startFrom 20 = .ok (.isub, 1) := by decide +kernel
theorem dX1_startFrom_21 : decode cX1_startFrom 21 = .ok (.ireturn, 1) := by decide +kernel
theorem dX2_init_0 : decode cX2_init 0 = .ok (.aload_n 0, 1) := by decide +kernel
theorem dX2_init_1 : decode cX2_init 1 = .ok (.invokespecial 3, 3) := by decide +kernel
theorem dX2_init_4 : decode cX2_init 4 = .ok (.aload_n 0, 1) := by decide +kernel
theorem dX2_init_5 : decode cX2_init 5 = .ok (.new 9, 3) := by decide +kernel
theorem dX2_init_8 : decode cX2_init 8 = .ok (.dup, 1) := by decide +kernel
theorem dX2_init_9 : decode cX2_init 9 = .ok (.bipush 60, 2) := by decide +kernel
theorem dX2_init_11 : decode cX2_init 11 = .ok (.invokespecial 11, 3) := by decide +kernel
theorem dX2_init_14 : decode cX2_init 14 = .ok (.putfield 14, 3) := by decide +kernel
theorem dX2_init_17 : decode cX2_init 17 = .ok (.aload_n 0, 1) := by decide +kernel
theorem dX2_init_18 : decode cX2_init 18 = .ok (.new 9, 3) := by decide +kernel
theorem dX2_init_21 : decode cX2_init 21 = .ok (.dup, 1) := by decide +kernel
theorem dX2_init_22 : decode cX2_init 22 = .ok (.bipush 21, 2) := by decide +kernel
theorem dX2_init_24 : decode cX2_init 24 = .ok (.invokespecial 11, 3) := by decide +kernel
theorem dX2_init_27 : decode cX2_init 27 = .ok (.putfield 20, 3) := by decide +kernel
theorem dX2_init_30 : decode cX2_init 30 = .ok (.aload_n 0, 1) := by decide +kernel
theorem dX2_init_31 : decode cX2_init 31 = .ok (.new 9, 3) := by decide +kernel
theorem dX2_init_34 : decode cX2_init 34 = .ok (.dup, 1) := by decide +kernel
theorem dX2_init_35 : decode cX2_init 35 = .ok (.bipush 108, 2) := by decide +kernel
theorem dX2_init_37 : decode cX2_init 37 = .ok (.invokespecial 11, 3) := by decide +kernel
theorem dX2_init_40 : decode cX2_init 40 = .ok (.putfield 23, 3) := by decide +kernel
theorem dX2_init_43 : decode cX2_init 43 = .ok (.return_, 1) := by decide +kernel
theorem dX2_clear_0 : decode cX2_clear 0 = .ok (.aload_n 0, 1) := by decide +kernel
theorem dX2_clear_1 : decode cX2_clear 1 = .ok (.getfield 14, 3) := by decide +kernel
theorem dX2_clear_4 : decode cX2_clear 4 = .ok (.lconst 0, 1) := by decide +kernel
theorem dX2_clear_5 : decode cX2_clear 5 = .ok (.invokevirtual 26, 3) := by decide +kernel
theorem dX2_clear_8 : decode cX2_clear 8 = .ok (.aload_n 0, 1) := by decide +kernel
theorem dX2_clear_9 : decode cX2_clear 9 = .ok (.getfield 20, 3) := by decide +kernel
theorem dX2_clear_12 : decode cX2_clear 12 = .ok (.lconst 0, 1) := by decide +kernel
theorem dX2_clear_13 : decode cX2_clear 13 = .ok (.invokevirtual 26, 3) := by decide +kernel
theorem dX2_clear_16 : decode cX2_clear 16 = .ok (.aload_n 0, 1) := by decide +kernel
theorem dX2_clear_17 : decode cX2_clear 17 = .ok (.getfield 23, 3) := by decide +kernel
theorem dX2_clear_20 : decode cX2_clear 20 = .ok (.lconst 0, 1) := by decide +kernel
theorem dX2_clear_21 : decode cX2_clear 21 = .ok (.invokevirtual 26, 3) := by decide +kernel
theorem dX2_clear_24 : decode cX2_clear 24 = .ok (.return_, 1) := by decide +kernel
theorem dX2_has_0 : decode cX2_has 0 = .ok (.aload_n 0, 1) := by decide +kernel
theorem dX2_has_1 : decode cX2_has 1 = .ok (.getfield 14, 3) := by decide +kernel
theorem dX2_has_4 : decode cX2_has 4 = .ok (.aload_n 1, 1) := by decide +kernel
theorem dX2_has_5 : decode cX2_has 5 = .ok (.getfield 30, 3) := by decide +kernel
theorem dX2_has_8 : decode cX2_has 8 = .ok (.invokevirtual 36, 3) := by decide +kernel
theorem dX2_has_11 : decode cX2_has 11 = .ok (.ireturn, 1) := by decide +kernel
theorem dX2_put_0 : decode cX2_put 0 = .ok (.aload_n 0, 1) := by decide +kernel
theorem dX2_put_1 : decode cX2_put 1 = .ok (.getfield 14, 3) := by decide +kernel
theorem dX2_put_4 : decode cX2_put 4 = .ok (.aload_n 1, 1) := by decide +kernel
theorem dX2_put_5 : decode cX2_put 5 = .ok (.getfield 30, 3) := by decide +kernel
theorem dX2_put_8 : decode cX2_put 8 = .ok (.iconst 1, 1) := by decide +kernel
theorem dX2_put_9 : decode cX2_put 9 = .ok (.invokevirtual 40, 3) := by decide +kernel
theorem dX2_put_12 : decode cX2_put 12 = .ok (.aload_n 0, 1) := by decide +kernel
theorem dX2_put_13 : decode cX2_put 13 = .ok (.aload_n 1, 1) := by decide +kernel
theorem dX2_put_14 : decode cX2_put 14 = .ok (.getfield 44, 3) := by decide +kernel
theorem dX2_put_17 : decode cX2_put 17 = .ok (.aload_n 1, 1) := by decide +kernel
theorem dX2_put_18 : decode cX2_put 18 = .ok (.getfield 44, 3) := by decide +kernel
theorem dX2_put_21 : decode cX2_put 21 = .ok (.getfield 48, 3) := by decide +kernel
theorem dX2_put_24 : decode cX2_put 24 = .ok (.i2l, 1) := by decide +kernel
theorem dX2_put_25 : decode cX2_put 25 = .ok (.invokevirtual 53, 3) := by decide +kernel
theorem dX2_put_28 : decode cX2_put 28 = .ok (.return_, 1) := by decide +kernel
theorem dX2_drop_0 : decode cX2_drop 0 = .ok (.aload_n 0, 1) := by decide +kernel
theorem dX2_drop_1 : decode cX2_drop 1 = .ok (.getfield 14, 3) := by decide +kernel
theorem dX2_drop_4 : decode cX2_drop 4 = .ok (.aload_n 1, 1) := by decide +kernel
theorem dX2_drop_5 : decode cX2_drop 5 = .ok (.getfield 30, 3) := by decide +kernel
theorem dX2_drop_8 : decode cX2_drop 8 = .ok (.iconst 0, 1) := by decide +kernel
theorem dX2_drop_9 : decode cX2_drop 9 = .ok (.invokevirtual 40, 3) := by decide +kernel
theorem dX2_drop_12 : decode cX2_drop 12 = .ok (.aload_n 0, 1) := by decide +kernel
theorem dX2_drop_13 : decode cX2_drop 13 = .ok (.aload_n 1, 1) := by decide +kernel
theorem dX2_drop_14 : decode cX2_drop 14 = .ok (.getfield 44, 3) := by decide +kernel
theorem dX2_drop_17 : decode cX2_drop 17 = .ok (.aload_n 1, 1) := by decide +kernel
theorem dX2_drop_18 : decode cX2_drop 18 = .ok (.getfield 44, 3) := by decide +kernel
theorem dX2_drop_21 : decode cX2_drop 21 = .ok (.getfield 48, 3) := by decide +kernel
theorem dX2_drop_24 : decode cX2_drop 24 = .ok (.ineg, 1) := by decide +kernel
theorem dX2_drop_25 : decode cX2_drop 25 = .ok (.i2l, 1) := by decide +kernel
theorem dX2_drop_26 : decode cX2_drop 26 = .ok (.invokevirtual 53, 3) := by decide +kernel
theorem dX2_drop_29 : decode cX2_drop 29 = .ok (.return_, 1) := by decide +kernel
theorem dX2_count_0 : decode cX2_count 0 = .ok (.aload_n 0, 1) := by decide +kernel
theorem dX2_count_1 : decode cX2_count 1 = .ok (.getfield 20, 3) := by decide +kernel
theorem dX2_count_4 : decode cX2_count 4 = .ok (.aload_n 1, 1) := by decide +kernel
theorem dX2_count_5 : decode cX2_count 5 = .ok (.getfield 57, 3) := by decide +kernel
theorem dX2_count_8 : decode cX2_count 8 = .ok (.aload_n 1, 1) := by decide +kernel
theorem dX2_count_9 : decode cX2_count 9 = .ok (.getfield 60, 3) := by decide +kernel
theorem dX2_count_12 : decode cX2_count 12 = .ok (.invokestatic 63, 3) := by decide +kernel
theorem dX2_count_15 : decode cX2_count 15 = .ok (.lload_n 2, 1) := by decide +kernel
theorem dX2_count_16 : decode cX2_count 16 = .ok (.lneg, 1) := by decide +kernel
theorem dX2_count_17 : decode cX2_count 17 = .ok (.invokevirtual 67, 3) := by decide +kernel
theorem dX2_count_20 : decode cX2_count 20 = .ok (.aload_n 0, 1) := by decide +kernel
theorem dX2_count_21 : decode cX2_count 21 = .ok (.getfield 20, 3) := by decide +kernel
theorem dX2_count_24 : decode cX2_count 24 = .ok (.aload_n 1, 1) := by decide +kernel
theorem dX2_count_25 : decode cX2_count 25 = .ok (.getfield 71, 3) := by decide +kernel
theorem dX2_count_28 : decode cX2_count 28 = .ok (.aload_n 1, 1) := by decide +kernel
theorem dX2_count_29 : decode cX2_count 29 = .ok (.getfield 60, 3) := by decide +kernel
theorem dX2_count_32 : decode cX2_count 32 = .ok (.invokestatic 63, 3) := by decide +kernel
theorem dX2_count_35 : decode cX2_count 35 = .ok (.lload_n 2, 1) := by decide +kernel
theorem dX2_count_36 : decode cX2_count 36 = .ok (.invokevirtual 67, 3) := by decide +kernel
theorem dX2_count_39 : decode cX2_count 39 = .ok (.aload_n 0, 1) := by decide +kernel
theorem dX2_count_40 : decode cX2_count 40 = .ok (.getfield 23, 3) := by decide +kernel
theorem dX2_count_43 : decode cX2_count 43 = .ok (.aload_n 1, 1) := by decide +kernel
theorem dX2_count_44 : decode cX2_count 44 = .ok (.getfield 57, 3) := by decide +kernel
theorem dX2_count_47 : decode cX2_count 47 = .ok (.aload_n 1, 1) := by decide +kernel
theorem dX2_count_48 : decode cX2_count 48 = .ok (.getfield 71, 3) := by decide +kernel
theorem dX2_count_51 : decode cX2_count 51 = .ok (.aload_n 1, 1) := by decide +kernel
theorem dX2_count_52 : decode cX2_count 52 = .ok (.getfield 60, 3) := by decide +kernel
theorem dX2_count_55 : decode cX2_count 55 = .ok (.invokestatic 74, 3) := by decide +kernel
theorem dX2_count_58 : decode cX2_count 58 = .ok (.lload_n 2, 1) := by decide +kernel
theorem dX2_count_59 : decode cX2_count 59 = .ok (.invokevirtual 67, 3) := by decide +kernel
theorem dX2_count_62 : decode cX2_count 62 = .ok (.aload_n 0, 1) := by decide +kernel
theorem dX2_count_63 : decode cX2_count 63 = .ok (.getfield 23, 3) := by decide +kernel
theorem dX2_count_66 : decode cX2_count 66 = .ok (.aload_n 1, 1) := by decide +kernel
theorem dX2_count_67 : decode cX2_count 67 = .ok (.getfield 71, 3) := by decide +kernel
theorem dX2_count_70 : decode cX2_count 70 = .ok (.aload_n 1, 1) := by decide +kernel
theorem dX2_count_71 : decode cX2_count 71 = .ok (.getfield 57, 3) := by decide +kernel
theorem dX2_count_74 : decode cX2_count 74 = .ok (.aload_n 1, 1) := by decide +kernel
theorem dX2_count_75 : decode cX2_count 75 = .ok (.getfield 60, 3) := by decide +kernel
theorem dX2_count_78 : decode cX2_count 78 = .ok (.invokestatic 74, 3) := by decide +kernel
theorem dX2_count_81 : decode cX2_count 81 = .ok (.lload_n 2, 1) := by decide +kernel
theorem dX2_count_82 : decode cX2_count 82 = .ok (.lneg, 1) := by decide +kernel
theorem dX2_count_83 : decode cX2_count 83 = .ok (.invokevirtual 67, 3) := by decide +kernel
theorem dX2_count_86 : decode cX2_count 86 = .ok (.return_, 1) := by decide +kernel
theorem dX2_lowestTooLow_0 : decode cX2_lowestTooLow 0 = .ok (.iconst 0, 1) := by decide +kernel
theorem dX2_lowestTooLow_1 : decode cX2_lowestTooLow 1 = .ok (.istore_n 3, 1) := by decide +kernel
theorem dX2_lowestTooLow_2 : decode cX2_lowestTooLow 2 = .ok (.iload_n 3, 1) := by decide +kernel
theorem dX2_lowestTooLow_3 : decode cX2_lowestTooLow 3 = .ok (.bipush 6, 2) := by decide +kernel
theorem dX2_lowestTooLow_5 : decode cX2_lowestTooLow 5 = .ok (.if_icmp .ge 36, 3) := by decide +kernel
theorem dX2_lowestTooLow_8 : decode cX2_lowestTooLow 8 = .ok (.iload_n 3, 1) := by decide +kernel
theorem dX2_lowestTooLow_9 : decode cX2_lowestTooLow 9 = .ok (.iload_n 2, 1) := by decide +kernel
theorem dX2_lowestTooLow_10 : decode cX2_lowestTooLow 10 = .ok (.invokestatic 63, 3) := by decide +kernel
theorem dX2_lowestTooLow_13 : decode cX2_lowestTooLow 13 = .ok (.istore 4, 2) := by decide +kernel
theorem dX2_lowestTooLow_15 : decode cX2_lowestTooLow 15 = .ok (.aload_n 1, 1) := by decide +kernel
theorem dX2_lowestTooLow_16 : decode cX2_lowestTooLow 16 = .ok (.iload 4, 2) := by decide +kernel
theorem dX2_lowestTooLow_18 : decode cX2_lowestTooLow 18 = .ok (.aload_n 0, 1) := by decide +kernel
theorem dX2_lowestTooLow_19 : decode cX2_lowestTooLow 19 = .ok (.getfield 20, 3) := by decide +kernel
theorem dX2_lowestTooLow_22 : decode cX2_lowestTooLow 22 = .ok (.iload 4, 2) := by decide +kernel
theorem dX2_lowestTooLow_24 : decode cX2_lowestTooLow 24 = .ok (.invokevirtual 78, 3) := by decide +kernel
theorem dX2_lowestTooLow_27 : decode cX2_lowestTooLow 27 = .ok (.invokevirtual 82, 3) := by decide +kernel
theorem dX2_lowestTooLow_30 : decode cX2_lowestTooLow 30 = .ok (.ifCond .eq 5, 3) := by decide +kernel
theorem dX2_lowestTooLow_33 : decode cX2_lowestTooLow 33 = .ok (.iload_n 3, 1) := by decide +kernel
theorem dX2_lowestTooLow_34 : decode cX2_lowestTooLow 34 = .ok (.ireturn, 1) := by decide +kernel
theorem dX2_lowestTooLow_35 : decode cX2_lowestTooLow 35 = .ok (.iinc 3 1, 3) := by decide +kernel
theorem dX2_lowestTooLow_38 : decode cX2_lowestTooLow 38 = .ok (.goto (-36), 3) := by decide +kernel
theorem dX2_lowestTooLow_41 : decode cX2_lowestTooLow 41 = .ok (.iconst (-1), 1) := by decide +kernel
theorem dX2_lowestTooLow_42 : decode cX2_lowestTooLow 42 = .ok (.ireturn, 1) := by decide +kernel
theorem dX2_passesLimit_0 : decode cX2_passesLimit 0 = .ok (.iload_n 2, 1) := by decide +kernel
theorem dX2_passesLimit_1 : decode cX2_passesLimit 1 = .ok (.iload_n 3, 1) := by decide +kernel
theorem dX2_passesLimit_2 : decode cX2_passesLimit 2 = .ok (.iload 4, 2) := by decide +kernel
theorem dX2_passesLimit_4 : decode cX2_passesLimit 4 = .ok (.invokestatic 74, 3) := by decide +kernel
theorem dX2_passesLimit_7 : decode cX2_passesLimit 7 = .ok (.istore 5, 2) := by decide +kernel
theorem dX2_passesLimit_9 : decode cX2_passesLimit 9 = .ok (.aload_n 1, 1) := by decide +kernel
theorem dX2_passesLimit_10 : decode cX2_passesLimit 10 = .ok (.iload 5, 2) := by decide +kernel
theorem dX2_passesLimit_12 : decode cX2_passesLimit 12 = .ok (.aload_n 0, 1) := by decide +kernel
theorem dX2_passesLimit_13 : decode cX2_passesLimit 13 = .ok (.getfield 23, 3) := by decide +kernel
theorem dX2_passesLimit_16 : decode cX2_passesLimit 16 = .ok (.iload 5, 2) := by decide +kernel
theorem dX2_passesLimit_18 : decode cX2_passesLimit 18 = .ok (.invokevirtual 78, 3) := by decide +kernel
theorem dX2_passesLimit_21 : decode cX2_passesLimit 21 = .ok (.invokevirtual 88, 3) := by decide +kernel
theorem dX2_passesLimit_24 : decode cX2_passesLimit 24 = .ok (.ireturn, 1) := by decide +kernel
theorem dX2_isWithinBounds_0 : decode cX2_isWithinBounds 0 = .ok (.aload_n 0, 1) := by decide +kernel
theorem dX2_isWithinBounds_1 : decode cX2_isWithinBounds 1 = .ok (.aload_n 1, 1) := by decide +kernel
theorem dX2_isWithinBounds_2 : decode cX2_isWithinBounds 2 = .ok (.iload_n 2, 1) := by decide +kernel
theorem dX2_isWithinBounds_3 : decode cX2_isWithinBounds 3 = .ok (.invokevirtual 91, 3) := by decide +kernel
theorem dX2_isWithinBounds_6 : decode cX2_isWithinBounds 6 = .ok (.iconst (-1), 1) := by decide +kernel
theorem dX2_isWithinBounds_7 : decode cX2_isWithinBounds 7 = .ok (.if_icmp .eq 5, 3) := by decide +kernel
theorem dX2_isWithinBounds_10 : decode cX2_isWithinBounds 10 = .ok (.iconst 0, 1) := by decide +kernel
theorem dX2_isWithinBounds_11 : decode cX2_isWithinBounds 11 = .ok (.ireturn, 1) := by decide +kernel
theorem dX2_isWithinBounds_12 : decode cX2_isWithinBounds 12 = .ok (.iconst 0, 1) := by decide +kernel
theorem dX2_isWithinBounds_13 : decode cX2_isWithinBounds 13 = .ok (.istore_n 3, 1) := by decide +kernel
theorem dX2_isWithinBounds_14 : decode cX2_isWithinBounds 14 = .ok (.iload_n 3, 1) := by decide +kernel
theorem dX2_isWithinBounds_15 : decode cX2_isWithinBounds 15 = .ok (.bipush 6, 2) := by decide +kernel
theorem dX2_isWithinBounds_17 : decode cX2_isWithinBounds 17 = .ok (.if_icmp .ge 39, 3) := by decide +kernel
theorem dX2_isWithinBounds_20 : decode cX2_isWithinBounds 20 = .ok (.iconst 0, 1) := by decide +kernel
theorem dX2_isWithinBounds_21 : decode cX2_isWithinBounds 21 = .ok (.istore 4, 2) := by decide +kernel
theorem dX2_isWithinBounds_23 : decode cX2_isWithinBounds 23 = .ok (.iload 4, 2) := by decide +kernel
theorem dX2_isWithinBounds_25 : decode cX2_isWithinBounds 25 = .ok (.bipush 6, 2) := by decide +kernel
theorem dX2_isWithinBounds_27 : decode cX2_isWithinBounds 27 = .ok (.if_icmp .ge 23, 3) := by decide +kernel
theorem dX2_isWithinBounds_30 : decode cX2_isWithinBounds 30 = .ok (.aload_n 0, 1) := by decide +kernel
theorem dX2_isWithinBounds_31 : decode cX2_isWithinBounds 31 = .ok (.aload_n 1, 1) := by decide +kernel
theorem dX2_isWithinBounds_32 : decode cX2_isWithinBounds 32 = .ok (.iload_n 3, 1) := by decide +kernel
theorem dX2_isWithinBounds_33 : decode cX2_isWithinBounds 33 = .ok (.iload 4, 2) := by decide +kernel
theorem dX2_isWithinBounds_35 : decode cX2_isWithinBounds 35 = .ok (.iload_n 2, 1) := by decide +kernel
theorem dX2_isWithinBounds_36 : decode cX2_isWithinBounds 36 = .ok (.invokevirtual 95, 3) := by decide +kernel
theorem dX2_isWithinBounds_39 : decode cX2_isWithinBounds 39 = .ok (.ifCond .eq 5, 3) := by decide +kernel
theorem dX2_isWithinBounds_42 : decode cX2_isWithinBounds 42 = .ok (.iconst 0, 1) := by decide +kernel
theorem dX2_isWithinBounds_43 : decode cX2_isWithinBounds 43 = .ok (.ireturn, 1) := by decide +kernel
theorem dX2_isWithinBounds_44 : decode cX2_isWithinBounds 44 = .ok (.iinc 4 1, 3) := by decide +kernel
theorem dX2_isWithinBounds_47 : decode cX2_isWithinBounds 47 = .ok (.goto (-24), 3) := by decide +kernel
theorem dX2_isWithinBounds_50 : decode cX2_isWithinBounds 50 = .ok (.iinc 3 1, 3) := by decide +kernel
theorem dX2_isWithinBounds_53 : decode cX2_isWithinBounds 53 = .ok (.goto (-39), 3) := by decide +kernel
theorem dX2_isWithinBounds_56 : decode cX2_isWithinBounds 56 = .ok (.iconst 1, 1) := by decide +kernel
theorem dX2_isWithinBounds_57 : decode cX2_isWithinBounds 57 = .ok (.ireturn, 1) := by decide +kernel
theorem dX3_init_0 : decode cX3_init 0 = .ok (.aload_n 0, 1) := by decide +kernel
theorem dX3_init_1 : decode cX3_init 1 = .ok (.invokespecial 3, 3) := by decide +kernel
theorem dX3_init_4 : decode cX3_init 4 = .ok (.aload_n 0, 1) := by decide +kernel
theorem dX3_init_5 : decode cX3_init 5 = .ok (.new 9, 3) := by decide +kernel
theorem dX3_init_8 : decode cX3_init 8 = .ok (.dup, 1) := by decide +kernel
theorem dX3_init_9 : decode cX3_init 9 = .ok (.invokespecial 11, 3) := by decide +kernel
theorem dX3_init_12 : decode cX3_init 12 = .ok (.putfield 12, 3) := by decide +kernel
theorem dX3_init_15 : decode cX3_init 15 = .ok (.return_, 1) := by decide +kernel
theorem dX3_count_0 : decode cX3_count 0 = .ok (.aload_n 0, 1) := by decide +kernel
theorem dX3_count_1 : decode cX3_count 1 = .ok (.getfield 12, 3) := by decide +kernel
theorem dX3_count_4 : decode cX3_count 4 = .ok (.invokevirtual 18, 3) := by decide +kernel
theorem dX3_count_7 : decode cX3_count 7 = .ok (.ireturn, 1) := by decide +kernel
theorem dX3_find_0 : decode cX3_find 0 = .ok (.iload_n 1, 1) := by decide +kernel
theorem dX3_find_1 : decode cX3_find 1 = .ok (.ifCond .lt 28, 3) := by decide +kernel
theorem dX3_find_4 : decode cX3_find 4 = .ok (.iload_n 1, 1) := by decide +kernel
theorem dX3_find_5 : decode cX3_find 5 = .ok (.aload_n 0, 1) := by decide +kernel
theorem dX3_find_6 : decode cX3_find 6 = .ok (.getfield 12, 3) := by decide +kernel
theorem dX3_find_9 : decode cX3_find 9 = .ok (.invokevirtual 18, 3) := by decide +kernel
theorem dX3_find_12 : decode cX3_find 12 = .ok (.if_icmp .ge 17, 3) := by decide +kernel
theorem dX3_find_15 : decode cX3_find 15 = .ok (.aload_n 0, 1) := by decide +kernel
theorem dX3_find_16 : decode cX3_find 16 = .ok (.getfield 12, 3) := by decide +kernel
theorem dX3_find_19 : decode cX3_find 19 = .ok (.iload_n 1, 1) := by decide +kernel
theorem dX3_find_20 : decode cX3_find 20 = .ok (.invokevirtual 22, 3) := by decide +kernel
theorem dX3_find_23 : decode cX3_find 23 = .ok (.checkcast 26, 3) := by decide +kernel
theorem dX3_find_26 : decode cX3_find 26 = .ok (.goto 4, 3) := by decide +kernel
theorem dX3_find_29 : decode cX3_find 29 = .ok (.aconst_null, 1) := by decide +kernel
theorem dX3_find_30 : decode cX3_find 30 = .ok (.areturn, 1) := by decide +kernel
theorem dX3_keep_0 : decode cX3_keep 0 = .ok (.aload_n 0, 1) := by decide +kernel
theorem dX3_keep_1 : decode cX3_keep 1 = .ok (.getfield 12, 3) := by decide +kernel
theorem dX3_keep_4 : decode cX3_keep 4 = .ok (.invokevirtual 18, 3) := by decide +kernel
theorem dX3_keep_7 : decode cX3_keep 7 = .ok (.sipush 20000, 3) := by decide +kernel
theorem dX3_keep_10 : decode cX3_keep 10 = .ok (.if_icmp .ge 12, 3) := by decide +kernel
theorem dX3_keep_13 : decode cX3_keep 13 = .ok (.aload_n 0, 1) := by decide +kernel
theorem dX3_keep_14 : decode cX3_keep 14 = .ok (.getfield 12, 3) := by decide +kernel
theorem dX3_keep_17 : decode cX3_keep 17 = .ok (.aload_n 1, 1) := by decide +kernel
theorem dX3_keep_18 : decode cX3_keep 18 = .ok (.invokevirtual 28, 3) := by decide +kernel
theorem dX3_keep_21 : decode cX3_keep 21 = .ok (.pop, 1) := by decide +kernel
theorem dX3_keep_22 : decode cX3_keep 22 = .ok (.return_, 1) := by decide +kernel
theorem dX3_sumOf_0 : decode cX3_sumOf 0 = .ok (.lconst 0, 1) := by decide +kernel
theorem dX3_sumOf_1 : decode cX3_sumOf 1 = .ok (.lstore_n 3, 1) := by decide +kernel
theorem dX3_sumOf_2 : decode cX3_sumOf 2 = .ok (.iconst 0, 1) := by decide +kernel
theorem dX3_sumOf_3 : decode cX3_sumOf 3 = .ok (.istore 5, 2) := by decide +kernel
theorem dX3_sumOf_5 : decode cX3_sumOf 5 = .ok (.iload 5, 2) := by decide +kernel
theorem dX3_sumOf_7 : decode cX3_sumOf 7 = .ok (.aload_n 0, 1) := by decide +kernel
theorem dX3_sumOf_8 : decode cX3_sumOf 8 = .ok (.getfield 12, 3) := by decide +kernel
theorem dX3_sumOf_11 : decode cX3_sumOf 11 = .ok (.invokevirtual 18, 3) := by decide +kernel
theorem dX3_sumOf_14 : decode cX3_sumOf 14 = .ok (.if_icmp .ge 74, 3) := by decide +kernel
theorem dX3_sumOf_17 : decode cX3_sumOf 17 = .ok (.aload_n 0, 1) := by decide +kernel
theorem dX3_sumOf_18 : decode cX3_sumOf 18 = .ok (.getfield 12, 3) := by decide +kernel
theorem dX3_sumOf_21 : decode cX3_sumOf 21 = .ok (.iload 5, 2) := by decide +kernel
theorem dX3_sumOf_23 : decode cX3_sumOf 23 = .ok (.invokevirtual 22, 3) := by decide +kernel
theorem dX3_sumOf_26 : decode cX3_sumOf 26 = .ok (.checkcast 26, 3) := by decide +kernel
theorem dX3_sumOf_29 : decode cX3_sumOf 29 = .ok (.astore 6, 2) := by decide +kernel
theorem dX3_sumOf_31 : decode cX3_sumOf 31 = .ok (.aload 6, 2) := by decide +kernel
theorem dX3_sumOf_33 : decode cX3_sumOf 33 = .ok (.getfield 32, 3) := by decide +kernel
theorem dX3_sumOf_36 : decode cX3_sumOf 36 = .ok (.iload_n 2, 1) := by decide +kernel
theorem dX3_sumOf_37 : decode cX3_sumOf 37 = .ok (.if_icmp .ne 45, 3) := by decide +kernel
theorem dX3_sumOf_40 : decode cX3_sumOf 40 = .ok (.lload_n 3, 1) := by decide +kernel
theorem dX3_sumOf_41 : decode cX3_sumOf 41 = .ok (.aload 6, 2) := by decide +kernel
theorem dX3_sumOf_43 : decode cX3_sumOf 43 = .ok (.getfield 36, 3) := by decide +kernel
theorem dX3_sumOf_46 : decode cX3_sumOf 46 = .ok (.iload_n 1, 1) := by decide +kernel
theorem dX3_sumOf_47 : decode cX3_sumOf 47 = .ok (.if_icmp .ne 11, 3) := by decide +kernel
theorem dX3_sumOf_50 : decode cX3_sumOf 50 = .ok (.aload 6, 2) := by decide +kernel
theorem dX3_sumOf_52 : decode cX3_sumOf 52 = .ok (.getfield 39, 3) := by decide +kernel
theorem dX3_sumOf_55 : decode cX3_sumOf 55 = .ok (.goto 4, 3) := by decide +kernel
theorem dX3_sumOf_58 : decode cX3_sumOf 58 = .ok (.lconst 0, 1) := by decide +kernel
theorem dX3_sumOf_59 : decode cX3_sumOf 59 = .ok (.ladd, 1) := by decide +kernel
theorem dX3_sumOf_60 : decode cX3_sumOf 60 = .ok (.lstore_n 3, 1) := by decide +kernel
theorem dX3_sumOf_61 : decode cX3_sumOf 61 = .ok (.lload_n 3, 1) := by decide +kernel
theorem dX3_sumOf_62 : decode cX3_sumOf 62 = .ok (.aload 6, 2) := by decide +kernel
theorem dX3_sumOf_64 : decode cX3_sumOf 64 = .ok (.getfield 43, 3) := by decide +kernel
theorem dX3_sumOf_67 : decode cX3_sumOf 67 = .ok (.iload_n 1, 1) := by decide +kernel
theorem dX3_sumOf_68 : decode cX3_sumOf 68 = .ok (.if_icmp .ne 11, 3) := by decide +kernel
theorem dX3_sumOf_71 : decode cX3_sumOf 71 = .ok (.aload 6, 2) := by decide +kernel
theorem dX3_sumOf_73 : decode cX3_sumOf 73 = .ok (.getfield 39, 3) := by decide +kernel
theorem dX3_sumOf_76 : decode cX3_sumOf 76 = .ok (.goto 4, 3) := by decide +kernel
theorem dX3_sumOf_79 : decode cX3_sumOf 79 = .ok (.lconst 0, 1) := by decide +kernel
theorem dX3_sumOf_80 : decode cX3_sumOf 80 = .ok (.lsub, 1) := by decide +kernel
theorem dX3_sumOf_81 : decode cX3_sumOf 81 = .ok (.lstore_n 3, 1) := by decide +kernel
theorem dX3_sumOf_82 : decode cX3_sumOf 82 = .ok (.iinc 5 1, 3) := by decide +kernel
theorem dX3_sumOf_85 : decode cX3_sumOf 85 = .ok (.goto (-80), 3) := by decide +kernel
theorem dX3_sumOf_88 : decode cX3_sumOf 88 = .ok (.lload_n 3, 1) := by decide +kernel
theorem dX3_sumOf_89 : decode cX3_sumOf 89 = .ok (.lreturn, 1) := by decide +kernel
theorem dX4_init_0 : decode cX4_init 0 = .ok (.aload_n 0, 1) := by decide +kernel
theorem dX4_init_1 : decode cX4_init 1 = .ok (.invokespecial 3, 3) := by decide +kernel
theorem dX4_init_4 : decode cX4_init 4 = .ok (.aload_n 0, 1) := by decide +kernel
theorem dX4_init_5 : decode cX4_init 5 = .ok (.new 9, 3) := by decide +kernel
theorem dX4_init_8 : decode cX4_init 8 = .ok (.dup, 1) := by decide +kernel
theorem dX4_init_9 : decode cX4_init 9 = .ok (.sipush 3000, 3) := by decide +kernel
theorem dX4_init_12 : decode cX4_init 12 = .ok (.invokespecial 11, 3) := by decide +kernel
theorem dX4_init_15 : decode cX4_init 15 = .ok (.putfield 14, 3) := by decide +kernel
theorem dX4_init_18 : decode cX4_init 18 = .ok (.return_, 1) := by decide +kernel
theorem dX4_changeHoliday_0 : decode cX4_changeHoliday 0 = .ok (.aload_n 0, 1) := by decide +kernel
theorem dX4_changeHoliday_1 : decode cX4_changeHoliday 1 = .ok (.getfield 14, 3) := by decide +kernel
theorem dX4_changeHoliday_4 : decode cX4_changeHoliday 4 = .ok (.iload_n 1, 1) := by decide +kernel
theorem dX4_changeHoliday_5 : decode cX4_changeHoliday 5 = .ok (.sipush 1000, 3) := by decide +kernel
theorem dX4_changeHoliday_8 : decode cX4_changeHoliday 8 = .ok (.imul, 1) := by decide +kernel
theorem dX4_changeHoliday_9 : decode cX4_changeHoliday 9 = .ok (.iload_n 2, 1) := by decide +kernel
theorem dX4_changeHoliday_10 : decode cX4_changeHoliday 10 = .ok (.iadd, 1) := by decide +kernel
theorem dX4_changeHoliday_11 : decode cX4_changeHoliday 11 = .ok (.iload_n 3, 1) := by decide +kernel
theorem dX4_changeHoliday_12 : decode cX4_changeHoliday 12 = .ok (.invokevirtual 20, 3) := by decide +kernel
theorem dX4_changeHoliday_15 : decode cX4_changeHoliday 15 = .ok (.return_, 1) := by decide +kernel
theorem dX4_isOpen_0 : decode cX4_isOpen 0 = .ok (.iload_n 2, 1) := by decide +kernel
theorem dX4_isOpen_1 : decode cX4_isOpen 1 = .ok (.bipush 7, 2) := by decide +kernel
theorem dX4_isOpen_3 : decode cX4_isOpen 3 = .ok (.irem, 1) := by decide +kernel
theorem dX4_isOpen_4 : decode cX4_isOpen 4 = .ok (.istore_n 3, 1) := by decide +kernel
theorem dX4_isOpen_5 : decode cX4_isOpen 5 = .ok (.iload_n 3, 1) := by decide +kernel
theorem dX4_isOpen_6 : decode cX4_isOpen 6 = .ok (.iconst 5, 1) := by decide +kernel
theorem dX4_isOpen_7 : decode cX4_isOpen 7 = .ok (.if_icmp .eq 30, 3) := by decide +kernel
theorem dX4_isOpen_10 : decode cX4_isOpen 10 = .ok (.iload_n 3, 1) := by decide +kernel
theorem dX4_isOpen_11 : decode cX4_isOpen 11 = .ok (.bipush 6, 2) := by decide +kernel
theorem dX4_isOpen_13 : decode cX4_isOpen 13 = .ok (.if_icmp .eq 24, 3) := by decide +kernel
theorem dX4_isOpen_16 : decode cX4_isOpen 16 = .ok (.aload_n 0, 1) := by decide +kernel
theorem dX4_isOpen_17 : decode cX4_isOpen 17 = .ok (.getfield 14, 3) := by decide +kernel
theorem dX4_isOpen_20 : decode cX4_isOpen 20 = .ok (.iload_n 1, 1) := by decide +kernel
theorem dX4_isOpen_21 : decode cX4_isOpen 21 = .ok (.sipush 1000, 3) := by decide +kernel
theorem dX4_isOpen_24 : decode cX4_isOpen 24 = .ok (.imul, 1) := by decide +kernel
theorem dX4_isOpen_25 : decode cX4_isOpen 25 = .ok (.iload_n 2, 1) := by decide +kernel
theorem dX4_isOpen_26 : decode cX4_isOpen 26 = .ok (.iadd, 1) := by decide +kernel
theorem dX4_isOpen_27 : decode cX4_isOpen 27 = .ok (.invokevirtual 24, 3) := by decide +kernel
theorem dX4_isOpen_30 : decode cX4_isOpen 30 = .ok (.ifCond .ne 7, 3) := by decide +kernel
theorem dX4_isOpen_33 : decode cX4_isOpen 33 = .ok (.iconst 1, 1) := by decide +kernel
theorem dX4_isOpen_34 : decode cX4_isOpen 34 = .ok (.goto 4, 3) := by decide +kernel
theorem dX4_isOpen_37 : decode cX4_isOpen 37 = .ok (.iconst 0, 1) := by decide +kernel
theorem dX4_isOpen_38 : decode cX4_isOpen 38 = .ok (.ireturn, 1) := by decide +kernel
theorem dX4_isOpenToday_0 : decode cX4_isOpenToday 0 = .ok (.aload_n 0, 1) := by decide +kernel
theorem dX4_isOpenToday_1 : decode cX4_isOpenToday 1 = .ok (.iload_n 1, 1) := by decide +kernel
theorem dX4_isOpenToday_2 : decode cX4_isOpenToday 2 = .ok (.aload_n 0, 1) := by decide +kernel
theorem dX4_isOpenToday_3 : decode cX4_isOpenToday 3 = .ok (.getfield 28, 3) := by decide +kernel
theorem dX4_isOpenToday_6 : decode cX4_isOpenToday 6 = .ok (.invokevirtual 32, 3) := by decide +kernel
theorem dX4_isOpenToday_9 : decode cX4_isOpenToday 9 = .ok (.ireturn, 1) := by decide +kernel
theorem dX5_init_0 : decode cX5_init 0 = .ok (.aload_n 0, 1) := by decide +kernel
theorem dX5_init_1 : decode cX5_init 1 = .ok (.invokespecial 1, 3) := by decide +kernel
theorem dX5_init_4 : decode cX5_init 4 = .ok (.aload_n 0, 1) := by decide +kernel
theorem dX5_init_5 : decode cX5_init 5 = .ok (.iload_n 1, 1) := by decide +kernel
theorem dX5_init_6 : decode cX5_init 6 = .ok (.putfield 7, 3) := by decide +kernel
theorem dX5_init_9 : decode cX5_init 9 = .ok (.aload_n 0, 1) := by decide +kernel
theorem dX5_init_10 : decode cX5_init 10 = .ok (.iload_n 2, 1) := by decide +kernel
theorem dX5_init_11 : decode cX5_init 11 = .ok (.putfield 13, 3) := by decide +kernel
theorem dX5_init_14 : decode cX5_init 14 = .ok (.aload_n 0, 1) := by decide +kernel
theorem dX5_init_15 : decode cX5_init 15 = .ok (.iload_n 3, 1) := by decide +kernel
theorem dX5_init_16 : decode cX5_init 16 = .ok (.putfield 16, 3) := by decide +kernel
theorem dX5_init_19 : decode cX5_init 19 = .ok (.aload_n 0, 1) := by decide +kernel
theorem dX5_init_20 : decode cX5_init 20 = .ok (.lload 4, 2) := by decide +kernel
theorem dX5_init_22 : decode cX5_init 22 = .ok (.putfield 19, 3) := by decide +kernel
theorem dX5_init_25 : decode cX5_init 25 = .ok (.aload_n 0, 1) := by decide +kernel
theorem dX5_init_26 : decode cX5_init 26 = .ok (.iload 6, 2) := by decide +kernel
theorem dX5_init_28 : decode cX5_init 28 = .ok (.putfield 23, 3) := by decide +kernel
theorem dX5_init_31 : decode cX5_init 31 = .ok (.return_, 1) := by decide +kernel
theorem dX5_part_0 : decode cX5_part 0 = .ok (.iload_n 1, 1) := by decide +kernel
theorem dX5_part_1 : decode cX5_part 1 = .ok (.tableswitch 54 0 3 #[31, 37, 43, 49], 31) := by decide +kernel
theorem dX5_part_32 : decode cX5_part 32 = .ok (.aload_n 0, 1) := by decide +kernel
theorem dX5_part_33 : decode cX5_part 33 = .ok (.getfield 7, 3) := by decide +kernel
theorem dX5_part_36 : decode cX5_part 36 = .ok (.i2l, 1) := by decide +kernel
theorem dX5_part_37 : decode cX5_part 37 = .ok (.lreturn, 1) := by decide +kernel
theorem dX5_part_38 : decode cX5_part 38 = .ok (.aload_n 0, 1) := by decide +kernel
theorem dX5_part_39 : decode cX5_part 39 = .ok (.getfield 13, 3) := by decide +kernel
theorem dX5_part_42 : decode cX5_part 42 = .ok (.i2l, 1) := by decide +kernel
theorem dX5_part_43 : decode cX5_part 43 = .ok (.lreturn, 1) := by decide +kernel
theorem dX5_part_44 : decode cX5_part 44 = .ok (.aload_n 0, 1) := by decide +kernel
theorem dX5_part_45 : decode cX5_part 45 = .ok (.getfield 16, 3) := by decide +kernel
theorem dX5_part_48 : decode cX5_part 48 = .ok (.i2l, 1) := by decide +kernel
theorem dX5_part_49 : decode cX5_part 49 = .ok (.lreturn, 1) := by decide +kernel
theorem dX5_part_50 : decode cX5_part 50 = .ok (.aload_n 0, 1) := by decide +kernel
theorem dX5_part_51 : decode cX5_part 51 = .ok (.getfield 19, 3) := by decide +kernel
theorem dX5_part_54 : decode cX5_part 54 = .ok (.lreturn, 1) := by decide +kernel
theorem dX5_part_55 : decode cX5_part 55 = .ok (.aload_n 0, 1) := by decide +kernel
theorem dX5_part_56 : decode cX5_part 56 = .ok (.getfield 23, 3) := by decide +kernel
theorem dX5_part_59 : decode cX5_part 59 = .ok (.i2l, 1) := by decide +kernel
theorem dX5_part_60 : decode cX5_part 60 = .ok (.lreturn, 1) := by decide +kernel
theorem dX6_init_0 : decode cX6_init 0 = .ok (.aload_n 0, 1) := by decide +kernel
theorem dX6_init_1 : decode cX6_init 1 = .ok (.invokespecial 3, 3) := by decide +kernel
theorem dX6_init_4 : decode cX6_init 4 = .ok (.aload_n 0, 1) := by decide +kernel
theorem dX6_init_5 : decode cX6_init 5 = .ok (.new 9, 3) := by decide +kernel
theorem dX6_init_8 : decode cX6_init 8 = .ok (.dup, 1) := by decide +kernel
theorem dX6_init_9 : decode cX6_init 9 = .ok (.invokespecial 11, 3) := by decide +kernel
theorem dX6_init_12 : decode cX6_init 12 = .ok (.putfield 12, 3) := by decide +kernel
theorem dX6_init_15 : decode cX6_init 15 = .ok (.aload_n 0, 1) := by decide +kernel
theorem dX6_init_16 : decode cX6_init 16 = .ok (.new 18, 3) := by decide +kernel
theorem dX6_init_19 : decode cX6_init 19 = .ok (.dup, 1) := by decide +kernel
theorem dX6_init_20 : decode cX6_init 20 = .ok (.invokespecial 20, 3) := by decide +kernel
theorem dX6_init_23 : decode cX6_init 23 = .ok (.putfield 21, 3) := by decide +kernel
theorem dX6_init_26 : decode cX6_init 26 = .ok (.aload_n 0, 1) := by decide +kernel
theorem dX6_init_27 : decode cX6_init 27 = .ok (.new 25, 3) := by decide +kernel
theorem dX6_init_30 : decode cX6_init 30 = .ok (.dup, 1) := by decide +kernel
theorem dX6_init_31 : decode cX6_init 31 = .ok (.invokespecial 27, 3) := by decide +kernel
theorem dX6_init_34 : decode cX6_init 34 = .ok (.putfield 28, 3) := by decide +kernel
theorem dX6_init_37 : decode cX6_init 37 = .ok (.aload_n 0, 1) := by decide +kernel
theorem dX6_init_38 : decode cX6_init 38 = .ok (.new 32, 3) := by decide +kernel
theorem dX6_init_41 : decode cX6_init 41 = .ok (.dup, 1) := by decide +kernel
theorem dX6_init_42 : decode cX6_init 42 = .ok (.invokespecial 34, 3) := by decide +kernel
theorem dX6_init_45 : decode cX6_init 45 = .ok (.putfield 35, 3) := by decide +kernel
theorem dX6_init_48 : decode cX6_init 48 = .ok (.aload_n 0, 1) := by decide +kernel
theorem dX6_init_49 : decode cX6_init 49 = .ok (.new 39, 3) := by decide +kernel
theorem dX6_init_52 : decode cX6_init 52 = .ok (.dup, 1) := by decide +kernel
theorem dX6_init_53 : decode cX6_init 53 = .ok (.bipush 6, 2) := by decide +kernel
theorem dX6_init_55 : decode cX6_init 55 = .ok (.invokespecial 41, 3) := by decide +kernel
theorem dX6_init_58 : decode cX6_init 58 = .ok (.putfield 44, 3) := by decide +kernel
theorem dX6_init_61 : decode cX6_init 61 = .ok (.aload_n 0, 1) := by decide +kernel
theorem dX6_init_62 : decode cX6_init 62 = .ok (.new 39, 3) := by decide +kernel
theorem dX6_init_65 : decode cX6_init 65 = .ok (.dup, 1) := by decide +kernel
theorem dX6_init_66 : decode cX6_init 66 = .ok (.bipush 20, 2) := by decide +kernel
theorem dX6_init_68 : decode cX6_init 68 = .ok (.invokespecial 41, 3) := by decide +kernel
theorem dX6_init_71 : decode cX6_init 71 = .ok (.putfield 48, 3) := by decide +kernel
theorem dX6_init_74 : decode cX6_init 74 = .ok (.aload_n 0, 1) := by decide +kernel
theorem dX6_init_75 : decode cX6_init 75 = .ok (.new 51, 3) := by decide +kernel
theorem dX6_init_78 : decode cX6_init 78 = .ok (.dup, 1) := by decide +kernel
theorem dX6_init_79 : decode cX6_init 79 = .ok (.invokespecial 53, 3) := by decide +kernel
theorem dX6_init_82 : decode cX6_init 82 = .ok (.putfield 54, 3) := by decide +kernel
theorem dX6_init_85 : decode cX6_init 85 = .ok (.return_, 1) := by decide +kernel
theorem dX6_bringIn_0 : decode cX6_bringIn 0 = .ok (.aload_n 0, 1) := by decide +kernel
theorem dX6_bringIn_1 : decode cX6_bringIn 1 = .ok (.getfield 28, 3) := by decide +kernel
theorem dX6_bringIn_4 : decode cX6_bringIn 4 = .ok (.aload_n 1, 1) := by decide +kernel
theorem dX6_bringIn_5 : decode cX6_bringIn 5 = .ok (.invokevirtual 58, 3) := by decide +kernel
theorem dX6_bringIn_8 : decode cX6_bringIn 8 = .ok (.astore_n 2, 1) := by decide +kernel
theorem dX6_bringIn_9 : decode cX6_bringIn 9 = .ok (.aload_n 1, 1) := by decide +kernel
theorem dX6_bringIn_10 : decode cX6_bringIn 10 = .ok (.getfield 62, 3) := by decide +kernel
theorem dX6_bringIn_13 : decode cX6_bringIn 13 = .ok (.aload_n 0, 1) := by decide +kernel
theorem dX6_bringIn_14 : decode cX6_bringIn 14 = .ok (.getfield 12, 3) := by decide +kernel
theorem dX6_bringIn_17 : decode cX6_bringIn 17 = .ok (.getfield 68, 3) := by decide +kernel
theorem dX6_bringIn_20 : decode cX6_bringIn 20 = .ok (.if_icmp .gt 22, 3) := by decide +kernel
theorem dX6_bringIn_23 : decode cX6_bringIn 23 = .ok (.aload_n 0, 1) := by decide +kernel
theorem dX6_bringIn_24 : decode cX6_bringIn 24 = .ok (.getfield 12, 3) := by decide +kernel
theorem dX6_bringIn_27 : decode cX6_bringIn 27 = .ok (.aload_n 1, 1) := by decide +kernel
theorem dX6_bringIn_28 : decode cX6_bringIn 28 = .ok (.getfield 69, 3) := by decide +kernel
theorem dX6_bringIn_31 : decode cX6_bringIn 31 = .ok (.invokevirtual 72, 3) := by decide +kernel
theorem dX6_bringIn_34 : decode cX6_bringIn 34 = .ok (.ifCond .eq 8, 3) := by decide +kernel
theorem dX6_bringIn_37 : decode cX6_bringIn 37 = .ok (.aload_n 0, 1) := by decide +kernel
theorem dX6_bringIn_38 : decode cX6_bringIn 38 = .ok (.aload_n 2, 1) := by decide +kernel
theorem dX6_bringIn_39 : decode cX6_bringIn 39 = .ok (.invokevirtual 76, 3) := by decide +kernel
theorem dX6_bringIn_42 : decode cX6_bringIn 42 = .ok (.aload_n 2, 1) := by decide +kernel
theorem dX6_bringIn_43 : decode cX6_bringIn 43 = .ok (.getfield 80, 3) := by decide +kernel
theorem dX6_bringIn_46 : decode cX6_bringIn 46 = .ok (.ireturn, 1) := by decide +kernel
theorem dX6_termsBack_0 : decode cX6_termsBack 0 = .ok (.new 63, 3) := by decide +kernel
theorem dX6_termsBack_3 : decode cX6_termsBack 3 = .ok (.dup, 1) := by decide +kernel
theorem dX6_termsBack_4 : decode cX6_termsBack 4 = .ok (.aload_n 1, 1) := by decide +kernel
theorem dX6_termsBack_5 : decode cX6_termsBack 5 = .ok (.getfield 85, 3) := by decide +kernel
theorem dX6_termsBack_8 : decode cX6_termsBack 8 = .ok (.aload_n 1, 1) := by decide +kernel
theorem dX6_termsBack_9 : decode cX6_termsBack 9 = .ok (.getfield 88, 3) := by decide +kernel
theorem dX6_termsBack_12 : decode cX6_termsBack 12 = .ok (.aload_n 1, 1) := by decide +kernel
theorem dX6_termsBack_13 : decode cX6_termsBack 13 = .ok (.getfield 69, 3) := by decide +kernel
theorem dX6_termsBack_16 : decode cX6_termsBack 16 = .ok (.aload_n 1, 1) := by decide +kernel
theorem dX6_termsBack_17 : decode cX6_termsBack 17 = .ok (.getfield 91, 3) := by decide +kernel
theorem dX6_termsBack_20 : decode cX6_termsBack 20 = .ok (.invokespecial 94, 3) := by decide +kernel
theorem dX6_termsBack_23 : decode cX6_termsBack 23 = .ok (.astore_n 2, 1) := by decide +kernel
theorem dX6_termsBack_24 : decode cX6_termsBack 24 = .ok (.aload_n 2, 1) := by decide +kernel
theorem dX6_termsBack_25 : decode cX6_termsBack 25 = .ok (.iconst 0, 1) := by decide +kernel
theorem dX6_termsBack_26 : decode cX6_termsBack 26 = .ok (.iconst 2, 1) := by decide +kernel
theorem dX6_termsBack_27 : decode cX6_termsBack 27 = .ok (.iconst 1, 1) := by decide +kernel
theorem dX6_termsBack_28 : decode cX6_termsBack 28 = .ok (.aload_n 0, 1) := by decide +kernel
theorem dX6_termsBack_29 : decode cX6_termsBack 29 = .ok (.getfield 12, 3) := by decide +kernel
theorem dX6_termsBack_32 : decode cX6_termsBack 32 = .ok (.getfield 68, 3) := by decide +kernel
theorem dX6_termsBack_35 : decode cX6_termsBack 35 = .ok (.iconst 1, 1) := by decide +kernel
theorem dX6_termsBack_36 : decode cX6_termsBack 36 = .ok (.invokevirtual 97, 3) := by decide +kernel
theorem dX6_termsBack_39 : decode cX6_termsBack 39 = .ok (.aload_n 2, 1) := by decide +kernel
theorem dX6_termsBack_40 : decode cX6_termsBack 40 = .ok (.areturn, 1) := by decide +kernel
theorem dX6_letEnter_0 : decode cX6_letEnter 0 = .ok (.aload_n 0, 1) := by decide +kernel
theorem dX6_letEnter_1 : decode cX6_letEnter 1 = .ok (.getfield 48, 3) := by decide +kernel
theorem dX6_letEnter_4 : decode cX6_letEnter 4 = .ok (.aload_n 1, 1) := by decide +kernel
theorem dX6_letEnter_5 : decode cX6_letEnter 5 = .ok (.getfield 101, 3) := by decide +kernel
theorem dX6_letEnter_8 : decode cX6_letEnter 8 = .ok (.getfield 105, 3) := by decide +kernel
theorem dX6_letEnter_11 : decode cX6_letEnter 11 = .ok (.invokevirtual 108, 3) := by decide +kernel
theorem dX6_letEnter_14 : decode cX6_letEnter 14 = .ok (.ifCond .eq 18, 3) := by decide +kernel
theorem dX6_letEnter_17 : decode cX6_letEnter 17 = .ok (.aload_n 1, 1) := by decide +kernel
theorem dX6_letEnter_18 : decode cX6_letEnter 18 = .ok (.getfield 111, 3) := by decide +kernel
theorem dX6_letEnter_21 : decode cX6_letEnter 21 = .ok (.ifCond .ne 11, 3) := by decide +kernel
theorem dX6_letEnter_24 : decode cX6_letEnter 24 = .ok (.aload_n 1, 1) := by decide +kernel
theorem dX6_letEnter_25 : decode cX6_letEnter 25 = .ok (.iconst 1, 1) := by decide +kernel
theorem dX6_letEnter_26 : decode cX6_letEnter 26 = .ok (.putfield 115, 3) := by decide +kernel
theorem dX6_letEnter_29 : decode cX6_letEnter 29 = .ok (.goto 22, 3) := by decide +kernel
theorem dX6_letEnter_32 : decode cX6_letEnter 32 = .ok (.aload_n 1, 1) := by decide +kernel
theorem dX6_letEnter_33 : decode cX6_letEnter 33 = .ok (.aload_n 1, 1) := by decide +kernel
theorem dX6_letEnter_34 : decode cX6_letEnter 34 = .ok (.getfield 101, 3) := by decide +kernel
theorem dX6_letEnter_37 : decode cX6_letEnter 37 = .ok (.getfield 118, 3) := by decide +kernel
theorem dX6_letEnter_40 : decode cX6_letEnter 40 = .ok (.ifCond .eq 7, 3) := by decide +kernel
theorem dX6_letEnter_43 : decode cX6_letEnter 43 = .ok (.iconst 2, 1) := by decide +kernel
theorem dX6_letEnter_44 : decode cX6_letEnter 44 = .ok (.goto 4, 3) := by decide +kernel
theorem dX6_letEnter_47 : decode cX6_letEnter 47 = .ok (.iconst 3, 1) := by decide +kernel
theorem dX6_letEnter_48 : decode cX6_letEnter 48 = .ok (.putfield 115, 3) := by decide +kernel
theorem dX6_letEnter_51 : decode cX6_letEnter 51 = .ok (.return_, 1) := by decide +kernel
theorem dX6_holdPaymentsFor_0 : decode cX6_holdPaymentsFor 0 = .ok (.iconst 0, 1) := by decide +kernel
theorem dX6_holdPaymentsFor_1 : decode cX6_holdPaymentsFor 1 = .ok (.istore_n 2, 1) := by decide +kernel
theorem dX6_holdPaymentsFor_2 : decode cX6_holdPaymentsFor 2 = .ok (.iconst 0, 1) := by decide +kernel
theorem dX6_holdPaymentsFor_3 : decode cX6_holdPaymentsFor 3 = .ok (.istore_n 3, 1) := by decide +kernel
theorem dX6_holdPaymentsFor_4 : decode cX6_holdPaymentsFor 4 = .ok (.iload_n 3, 1) := by decide +kernel
theorem dX6_holdPaymentsFor_5 : decode cX6_holdPaymentsFor 5 = .ok (.aload_n 0, 1) := by decide +kernel
theorem dX6_holdPaymentsFor_6 : decode cX6_holdPaymentsFor 6 = .ok (.getfield 28, 3) := by decide +kernel
theorem dX6_holdPaymentsFor_9 : decode cX6_holdPaymentsFor 9 = .ok (.invokevirtual 121, 3) := by decide +kernel
theorem dX6_holdPaymentsFor_12 : decode cX6_holdPaymentsFor 12 = .ok (.if_icmp .ge 71, 3) := by decide +kernel
theorem dX6_holdPaymentsFor_15 : decode cX6_holdPaymentsFor 15 = .ok (.aload_n 0, 1) := by decide +kernel
theorem dX6_holdPaymentsFor_16 : decode cX6_holdPaymentsFor 16 = .ok (.getfield 28, 3) := by decide +kernel
theorem dX6_holdPaymentsFor_19 : decode cX6_holdPaymentsFor 19 = .ok (.iload_n 3, 1) := by decide +kernel
theorem dX6_holdPaymentsFor_20 : decode cX6_holdPaymentsFor 20 = .ok (.invokevirtual 125, 3) := by decide +kernel
theorem dX6_holdPaymentsFor_23 : decode cX6_holdPaymentsFor 23 = .ok (.astore 4, 2) := by decide +kernel
theorem dX6_holdPaymentsFor_25 : decode cX6_holdPaymentsFor 25 = .ok (.aload 4, 2) := by decide +kernel
theorem dX6_holdPaymentsFor_27 : decode cX6_holdPaymentsFor 27 = .ok (.ifnull 50, 3) := by decide +kernel
theorem dX6_holdPaymentsFor_30 : decode cX6_holdPaymentsFor 30 = .ok (.aload 4, 2) := by decide +kernel
theorem dX6_holdPaymentsFor_32 : decode cX6_holdPaymentsFor 32 = .ok (.getfield 101, 3) := by decide +kernel
theorem dX6_holdPaymentsFor_35 : decode cX6_holdPaymentsFor 35 = .ok (.getfield 105, 3) := by decide +kernel
theorem dX6_holdPaymentsFor_38 : decode cX6_holdPaymentsFor 38 = .ok (.iload_n 1, 1) := by decide +kernel
theorem dX6_holdPaymentsFor_39 : decode cX6_holdPaymentsFor 39 = .ok (.if_icmp .ne 38, 3) := by decide +kernel
theorem dX6_holdPaymentsFor_42 : decode cX6_holdPaymentsFor 42 = .ok (.aload 4, 2) := by decide +kernel
theorem dX6_holdPaymentsFor_44 : decode cX6_holdPaymentsFor 44 = .ok (.getfield 111, 3) := by decide +kernel
theorem dX6_holdPaymentsFor_47 : decode cX6_holdPaymentsFor 47 = .ok (.ifCond .ne 30, 3) := by decide +kernel
theorem dX6_holdPaymentsFor_50 : decode cX6_holdPaymentsFor 50 = .ok (.aload 4, 2) := by decide +kernel
theorem dX6_holdPaymentsFor_52 : decode cX6_holdPaymentsFor 52 = .ok (.getfield 115, 3) := by decide +kernel
theorem dX6_holdPaymentsFor_55 : decode cX6_holdPaymentsFor 55 = .ok (.iconst 2, 1) := by decide +kernel
theorem dX6_holdPaymentsFor_56 : decode cX6_holdPaymentsFor 56 = .ok (.if_icmp .eq 12, 3) := by decide +kernel
theorem dX6_holdPaymentsFor_59 : decode cX6_holdPaymentsFor 59 = .ok (.aload 4, 2) := by decide +kernel
theorem dX6_holdPaymentsFor_61 : decode cX6_holdPaymentsFor 61 = .ok (.getfield 115, 3) := by decide +kernel
theorem dX6_holdPaymentsFor_64 : decode cX6_holdPaymentsFor 64 = .ok (.iconst 3, 1) := by decide +kernel
theorem dX6_holdPaymentsFor_65 : decode cX6_holdPaymentsFor 65 = .ok (.if_icmp .ne 12, 3) := by decide +kernel
theorem dX6_holdPaymentsFor_68 : decode cX6_holdPaymentsFor 68 = .ok (.aload 4, 2) := by decide +kernel
theorem dX6_holdPaymentsFor_70 : decode cX6_holdPaymentsFor 70 = .ok (.iconst 1, 1) := by decide +kernel
theorem dX6_holdPaymentsFor_71 : decode cX6_holdPaymentsFor 71 = .ok (.putfield 115, 3) := by decide +kernel
theorem dX6_holdPaymentsFor_74 : decode cX6_holdPaymentsFor 74 = .ok (.iinc 2 1, 3) := by decide +kernel
theorem dX6_holdPaymentsFor_77 : decode cX6_holdPaymentsFor 77 = .ok (.iinc 3 1, 3) := by decide +kernel
theorem dX6_holdPaymentsFor_80 : decode cX6_holdPaymentsFor 80 = .ok (.goto (-76), 3) := by decide +kernel
theorem dX6_holdPaymentsFor_83 : decode cX6_holdPaymentsFor 83 = .ok (.iload_n 2, 1) := by decide +kernel
theorem dX6_holdPaymentsFor_84 : decode cX6_holdPaymentsFor 84 = .ok (.ireturn, 1) := by decide +kernel
theorem dX6_runQueues_0 : decode cX6_runQueues 0 = .ok (.iconst 0, 1) := by decide +kernel
theorem dX6_runQueues_1 : decode cX6_runQueues 1 = .ok (.istore_n 1, 1) := by decide +kernel
theorem dX6_runQueues_2 : decode cX6_runQueues 2 = .ok (.iconst 0, 1) := by decide +kernel
theorem dX6_runQueues_3 : decode cX6_runQueues 3 = .ok (.istore_n 2, 1) := by decide +kernel
theorem dX6_runQueues_4 : decode cX6_runQueues 4 = .ok (.iload_n 2, 1) := by decide +kernel
theorem dX6_runQueues_5 : decode cX6_runQueues 5 = .ok (.bipush 60, 2) := by decide +kernel
theorem dX6_runQueues_7 : decode cX6_runQueues 7 = .ok (.if_icmp .gt 60, 3) := by decide +kernel
theorem dX6_runQueues_10 : decode cX6_runQueues 10 = .ok (.iload_n 1, 1) := by decide +kernel
theorem dX6_runQueues_11 : decode cX6_runQueues 11 = .ok (.istore_n 3, 1) := by decide +kernel
theorem dX6_runQueues_12 : decode cX6_runQueues 12 = .ok (.iconst 0, 1) := by decide +kernel
theorem dX6_runQueues_13 : decode cX6_runQueues 13 = .ok (.istore 4, 2) := by decide +kernel
theorem dX6_runQueues_15 : decode cX6_runQueues 15 = .ok (.iload 4, 2) := by decide +kernel
theorem dX6_runQueues_17 : decode cX6_runQueues 17 = .ok (.iconst 3, 1) := by decide +kernel
theorem dX6_runQueues_18 : decode cX6_runQueues 18 = .ok (.if_icmp .ge 36, 3) := by decide +kernel
theorem dX6_runQueues_21 : decode cX6_runQueues 21 = .ok (.iconst 0, 1) := by decide +kernel
theorem dX6_runQueues_22 : decode cX6_runQueues 22 = .ok (.istore 5, 2) := by decide +kernel
theorem dX6_runQueues_24 : decode cX6_runQueues 24 = .ok (.iload 5, 2) := by decide +kernel
theorem dX6_runQueues_26 : decode cX6_runQueues 26 = .ok (.bipush 6, 2) := by decide +kernel
theorem dX6_runQueues_28 : decode cX6_runQueues 28 = .ok (.if_icmp .ge 20, 3) := by decide +kernel
theorem dX6_runQueues_31 : decode cX6_runQueues 31 = .ok (.iload_n 1, 1) := by decide +kernel
theorem dX6_runQueues_32 : decode cX6_runQueues 32 = .ok (.aload_n 0, 1) := by decide +kernel
theorem dX6_runQueues_33 : decode cX6_runQueues 33 = .ok (.iload 5, 2) := by decide +kernel
theorem dX6_runQueues_35 : decode cX6_runQueues 35 = .ok (.iload 4, 2) := by decide +kernel
theorem dX6_runQueues_37 : decode cX6_runQueues 37 = .ok (.invokevirtual 129, 3) := by decide +kernel
theorem dX6_runQueues_40 : decode cX6_runQueues 40 = .ok (.iadd, 1) := by decide +kernel
theorem dX6_runQueues_41 : decode cX6_runQueues 41 = .ok (.istore_n 1, 1) := by decide +kernel
theorem dX6_runQueues_42 : decode cX6_runQueues 42 = .ok (.iinc 5 1, 3) := by decide +kernel
theorem dX6_runQueues_45 : decode cX6_runQueues 45 = .ok (.goto (-21), 3) := by decide +kernel
theorem dX6_runQueues_48 : decode cX6_runQueues 48 = .ok (.iinc 4 1, 3) := by decide +kernel
theorem dX6_runQueues_51 : decode cX6_runQueues 51 = .ok (.goto (-36), 3) := by decide +kernel
theorem dX6_runQueues_54 : decode cX6_runQueues 54 = .ok (.iload_n 1, 1) := by decide +kernel
theorem dX6_runQueues_55 : decode cX6_runQueues 55 = .ok (.iload_n 3, 1) := by decide +kernel
theorem dX6_runQueues_56 : decode cX6_runQueues 56 = .ok (.if_icmp .ne 5, 3) := by decide +kernel
theorem dX6_runQueues_59 : decode cX6_runQueues 59 = .ok (.iload_n 1, 1) := by decide +kernel
theorem dX6_runQueues_60 : decode cX6_runQueues 60 = .ok (.ireturn, 1) := by decide +kernel
theorem dX6_runQueues_61 : decode cX6_runQueues 61 = .ok (.iinc 2 1, 3) := by decide +kernel
theorem dX6_runQueues_64 : decode cX6_runQueues 64 = .ok (.goto (-60), 3) := by decide +kernel
theorem dX6_runQueues_67 : decode cX6_runQueues 67 = .ok (.iload_n 1, 1) := by decide +kernel
theorem dX6_runQueues_68 : decode cX6_runQueues 68 = .ok (.ireturn, 1) := by decide +kernel
theorem dX6_settleFirst_0 : decode cX6_settleFirst 0 = .ok (.aload_n 0, 1) := by decide +kernel
theorem dX6_settleFirst_1 : decode cX6_settleFirst 1 = .ok (.getfield 28, 3) := by decide +kernel
theorem dX6_settleFirst_4 : decode cX6_settleFirst 4 = .ok (.iload_n 1, 1) := by decide +kernel
theorem dX6_settleFirst_5 : decode cX6_settleFirst 5 = .ok (.iload_n 2, 1) := by decide +kernel
theorem dX6_settleFirst_6 : decode cX6_settleFirst 6 = .ok (.aconst_null, 1) := by decide +kernel
theorem dX6_settleFirst_7 : decode cX6_settleFirst 7 = .ok (.invokevirtual 133, 3) := by decide +kernel
theorem dX6_settleFirst_10 : decode cX6_settleFirst 10 = .ok (.astore_n 3, 1) := by decide +kernel
theorem dX6_settleFirst_11 : decode cX6_settleFirst 11 = .ok (.aload_n 3, 1) := by decide +kernel
theorem dX6_settleFirst_12 : decode cX6_settleFirst 12 = .ok (.ifnull 11, 3) := by decide +kernel
theorem dX6_settleFirst_15 : decode cX6_settleFirst 15 = .ok (.aload_n 0, 1) := by decide +kernel
theorem dX6_settleFirst_16 : decode cX6_settleFirst 16 = .ok (.aload_n 3, 1) := by decide +kernel
theorem dX6_settleFirst_17 : decode cX6_settleFirst 17 = .ok (.invokevirtual 137, 3) := by decide +kernel
theorem dX6_settleFirst_20 : decode cX6_settleFirst 20 = .ok (.ifCond .ne 5, 3) := by decide +kernel
theorem dX6_settleFirst_23 : decode cX6_settleFirst 23 = .ok (.iconst 0, 1) := by decide +kernel
theorem dX6_settleFirst_24 : decode cX6_settleFirst 24 = .ok (.ireturn, 1) := by decide +kernel
theorem dX6_settleFirst_25 : decode cX6_settleFirst 25 = .ok (.aload_n 0, 1) := by decide +kernel
theorem dX6_settleFirst_26 : decode cX6_settleFirst 26 = .ok (.getfield 54, 3) := by decide +kernel
theorem dX6_settleFirst_29 : decode cX6_settleFirst 29 = .ok (.invokevirtual 141, 3) := by decide +kernel
theorem dX6_settleFirst_32 : decode cX6_settleFirst 32 = .ok (.aload_n 0, 1) := by decide +kernel
theorem dX6_settleFirst_33 : decode cX6_settleFirst 33 = .ok (.getfield 54, 3) := by decide +kernel
theorem dX6_settleFirst_36 : decode cX6_settleFirst 36 = .ok (.aload_n 3, 1) := by decide +kernel
theorem dX6_settleFirst_37 : decode cX6_settleFirst 37 = .ok (.invokevirtual 144, 3) := by decide +kernel
theorem dX6_settleFirst_40 : decode cX6_settleFirst 40 = .ok (.aload_n 3, 1) := by decide +kernel
theorem dX6_settleFirst_41 : decode cX6_settleFirst 41 = .ok (.getfield 147, 3) := by decide +kernel
theorem dX6_settleFirst_44 : decode cX6_settleFirst 44 = .ok (.astore 4, 2) := by decide +kernel
theorem dX6_settleFirst_46 : decode cX6_settleFirst 46 = .ok (.aload 4, 2) := by decide +kernel
theorem dX6_settleFirst_48 : decode cX6_settleFirst 48 = .ok (.ifnull 56, 3) := by decide +kernel
theorem dX6_settleFirst_51 : decode cX6_settleFirst 51 = .ok (.aload 4, 2) := by decide +kernel
theorem dX6_settleFirst_53 : decode cX6_settleFirst 53 = .ok (.getfield 115, 3) := by decide +kernel
theorem dX6_settleFirst_56 : decode cX6_settleFirst 56 = .ok (.iconst 2, 1) := by decide +kernel
theorem dX6_settleFirst_57 : decode cX6_settleFirst 57 = .ok (.if_icmp .ne 12, 3) := by decide +kernel
theorem dX6_settleFirst_60 : decode cX6_settleFirst 60 = .ok (.aload_n 0, 1) := by decide +kernel
theorem dX6_settleFirst_61 : decode cX6_settleFirst 61 = .ok (.aload 4, 2) := by decide +kernel
theorem dX6_settleFirst_63 : decode cX6_settleFirst 63 = .ok (.invokevirtual 137, 3) := by decide +kernel
theorem dX6_settleFirst_66 : decode cX6_settleFirst 66 = .ok (.ifCond .ne 5, 3) := by decide +kernel
theorem dX6_settleFirst_69 : decode cX6_settleFirst 69 = .ok (.iconst 0, 1) := by decide +kernel
theorem dX6_settleFirst_70 : decode cX6_settleFirst 70 = .ok (.ireturn, 1) := by decide +kernel
theorem dX6_settleFirst_71 : decode cX6_settleFirst 71 = .ok (.aload_n 0, 1) := by decide +kernel
theorem dX6_settleFirst_72 : decode cX6_settleFirst 72 = .ok (.getfield 54, 3) := by decide +kernel
theorem dX6_settleFirst_75 : decode cX6_settleFirst 75 = .ok (.aload 4, 2) := by decide +kernel
theorem dX6_settleFirst_77 : decode cX6_settleFirst 77 = .ok (.invokevirtual 144, 3) := by decide +kernel
theorem dX6_settleFirst_80 : decode cX6_settleFirst 80 = .ok (.aload_n 0, 1) := by decide +kernel
theorem dX6_settleFirst_81 : decode cX6_settleFirst 81 = .ok (.getfield 54, 3) := by decide +kernel
theorem dX6_settleFirst_84 : decode cX6_settleFirst 84 = .ok (.aload_n 0, 1) := by decide +kernel
theorem dX6_settleFirst_85 : decode cX6_settleFirst 85 = .ok (.getfield 21, 3) := by decide +kernel
theorem dX6_settleFirst_88 : decode cX6_settleFirst 88 = .ok (.aload 4, 2) := by decide +kernel
theorem dX6_settleFirst_90 : decode cX6_settleFirst 90 = .ok (.getfield 101, 3) := by decide +kernel
theorem dX6_settleFirst_93 : decode cX6_settleFirst 93 = .ok (.getfield 69, 3) := by decide +kernel
theorem dX6_settleFirst_96 : decode cX6_settleFirst 96 = .ok (.invokevirtual 151, 3) := by decide +kernel
theorem dX6_settleFirst_99 : decode cX6_settleFirst 99 = .ok (.ifCond .ne 5, 3) := by decide +kernel
theorem dX6_settleFirst_102 : decode cX6_settleFirst 102 = .ok (.iconst 0, 1) := by decide +kernel
theorem dX6_settleFirst_103 : decode cX6_settleFirst 103 = .ok (.ireturn, 1) := by decide +kernel
theorem dX6_settleFirst_104 : decode cX6_settleFirst 104 = .ok (.aload_n 0, 1) := by decide +kernel
theorem dX6_settleFirst_105 : decode cX6_settleFirst 105 = .ok (.getfield 54, 3) := by decide +kernel
theorem dX6_settleFirst_108 : decode cX6_settleFirst 108 = .ok (.aload_n 0, 1) := by decide +kernel
theorem dX6_settleFirst_109 : decode cX6_settleFirst 109 = .ok (.getfield 21, 3) := by decide +kernel
theorem dX6_settleFirst_112 : decode cX6_settleFirst 112 = .ok (.iload_n 2, 1) := by decide +kernel
theorem dX6_settleFirst_113 : decode cX6_settleFirst 113 = .ok (.invokevirtual 151, 3) := by decide +kernel
theorem dX6_settleFirst_116 : decode cX6_settleFirst 116 = .ok (.ifCond .eq 10, 3) := by decide +kernel
theorem dX6_settleFirst_119 : decode cX6_settleFirst 119 = .ok (.aload_n 0, 1) := by decide +kernel
theorem dX6_settleFirst_120 : decode cX6_settleFirst 120 = .ok (.invokevirtual 155, 3) := by decide +kernel
theorem dX6_settleFirst_123 : decode cX6_settleFirst 123 = .ok (.goto 4, 3) := by decide +kernel
theorem dX6_settleFirst_126 : decode cX6_settleFirst 126 = .ok (.iconst 0, 1) := by decide +kernel
theorem dX6_settleFirst_127 : decode cX6_settleFirst 127 = .ok (.ireturn, 1) := by decide +kernel
theorem dX6_mayMove_0 : decode cX6_mayMove 0 = .ok (.aload_n 0, 1) := by decide +kernel
theorem dX6_mayMove_1 : decode cX6_mayMove 1 = .ok (.getfield 12, 3) := by decide +kernel
theorem dX6_mayMove_4 : decode cX6_mayMove 4 = .ok (.aload_n 1, 1) := by decide +kernel
theorem dX6_mayMove_5 : decode cX6_mayMove 5 = .ok (.getfield 101, 3) := by decide +kernel
theorem dX6_mayMove_8 : decode cX6_mayMove 8 = .ok (.getfield 69, 3) := by decide +kernel
theorem dX6_mayMove_11 : decode cX6_mayMove 11 = .ok (.invokevirtual 72, 3) := by decide +kernel
theorem dX6_mayMove_14 : decode cX6_mayMove 14 = .ok (.ifCond .eq 41, 3) := by decide +kernel
theorem dX6_mayMove_17 : decode cX6_mayMove 17 = .ok (.aload_n 0, 1) := by decide +kernel
theorem dX6_mayMove_18 : decode cX6_mayMove 18 = .ok (.getfield 44, 3) := by decide +kernel
theorem dX6_mayMove_21 : decode cX6_mayMove 21 = .ok (.aload_n 1, 1) := by decide +kernel
theorem dX6_mayMove_22 : decode cX6_mayMove 22 = .ok (.getfield 101, 3) := by decide +kernel
theorem dX6_mayMove_25 : decode cX6_mayMove 25 = .ok (.getfield 88, 3) := by decide +kernel
theorem dX6_mayMove_28 : decode cX6_mayMove 28 = .ok (.invokevirtual 108, 3) := by decide +kernel
theorem dX6_mayMove_31 : decode cX6_mayMove 31 = .ok (.ifCond .ne 24, 3) := by decide +kernel
theorem dX6_mayMove_34 : decode cX6_mayMove 34 = .ok (.aload_n 0, 1) := by decide +kernel
theorem dX6_mayMove_35 : decode cX6_mayMove 35 = .ok (.getfield 44, 3) := by decide +kernel
theorem dX6_mayMove_38 : decode cX6_mayMove 38 = .ok (.aload_n 1, 1) := by decide +kernel
theorem dX6_mayMove_39 : decode cX6_mayMove 39 = .ok (.getfield 101, 3) := by decide +kernel
theorem dX6_mayMove_42 : decode cX6_mayMove 42 = .ok (.getfield 85, 3) := by decide +kernel
theorem dX6_mayMove_45 : decode cX6_mayMove 45 = .ok (.invokevirtual 108, 3) := by decide +kernel
theorem dX6_mayMove_48 : decode cX6_mayMove 48 = .ok (.ifCond .ne 7, 3) := by decide +kernel
