theorem dX11_line_37 : decode cX11_line 37 = .ok (.invokevirtual 35, 3) := by decide +kernel
theorem dX11_line_40 : decode cX11_line 40 = .ok (.pop, 1) := by decide +kernel
theorem dX11_line_41 : decode cX11_line 41 = .ok (.iload 4, 2) := by decide +kernel
theorem dX11_line_43 : decode cX11_line 43 = .ok (.ireturn, 1) := by decide +kernel
theorem dX11_limit_0 : decode cX11_limit 0 = .ok (.iload_n 1, 1) := by decide +kernel
theorem dX11_limit_1 : decode cX11_limit 1 = .ok (.bipush 6, 2) := by decide +kernel
theorem dX11_limit_3 : decode cX11_limit 3 = .ok (.invokestatic 16, 3) := by decide +kernel
theorem dX11_limit_6 : decode cX11_limit 6 = .ok (.iload_n 2, 1) := by decide +kernel
theorem dX11_limit_7 : decode cX11_limit 7 = .ok (.bipush 6, 2) := by decide +kernel
theorem dX11_limit_9 : decode cX11_limit 9 = .ok (.invokestatic 16, 3) := by decide +kernel
theorem dX11_limit_12 : decode cX11_limit 12 = .ok (.iload_n 3, 1) := by decide +kernel
theorem dX11_limit_13 : decode cX11_limit 13 = .ok (.iconst 3, 1) := by decide +kernel
theorem dX11_limit_14 : decode cX11_limit 14 = .ok (.invokestatic 16, 3) := by decide +kernel
theorem dX11_limit_17 : decode cX11_limit 17 = .ok (.iload_n 1, 1) := by decide +kernel
theorem dX11_limit_18 : decode cX11_limit 18 = .ok (.iload_n 2, 1) := by decide +kernel
theorem dX11_limit_19 : decode cX11_limit 19 = .ok (.invokestatic 47, 3) := by decide +kernel
theorem dX11_limit_22 : decode cX11_limit 22 = .ok (.iload 4, 2) := by decide +kernel
theorem dX11_limit_24 : decode cX11_limit 24 = .ok (.iconst (-1), 1) := by decide +kernel
theorem dX11_limit_25 : decode cX11_limit 25 = .ok (.ldc 20, 2) := by decide +kernel
theorem dX11_limit_27 : decode cX11_limit 27 = .ok (.invokestatic 21, 3) := by decide +kernel
theorem dX11_limit_30 : decode cX11_limit 30 = .ok (.aload_n 0, 1) := by decide +kernel
theorem dX11_limit_31 : decode cX11_limit 31 = .ok (.getfield 10, 3) := by decide +kernel
theorem dX11_limit_34 : decode cX11_limit 34 = .ok (.getfield 25, 3) := by decide +kernel
theorem dX11_limit_37 : decode cX11_limit 37 = .ok (.iload_n 1, 1) := by decide +kernel
theorem dX11_limit_38 : decode cX11_limit 38 = .ok (.iload_n 2, 1) := by decide +kernel
theorem dX11_limit_39 : decode cX11_limit 39 = .ok (.iload_n 3, 1) := by decide +kernel
theorem dX11_limit_40 : decode cX11_limit 40 = .ok (.invokestatic 50, 3) := by decide +kernel
theorem dX11_limit_43 : decode cX11_limit 43 = .ok (.iload 4, 2) := by decide +kernel
theorem dX11_limit_45 : decode cX11_limit 45 = .ok (.invokevirtual 53, 3) := by decide +kernel
theorem dX11_limit_48 : decode cX11_limit 48 = .ok (.istore 5, 2) := by decide +kernel
theorem dX11_limit_50 : decode cX11_limit 50 = .ok (.aload_n 0, 1) := by decide +kernel
theorem dX11_limit_51 : decode cX11_limit 51 = .ok (.getfield 10, 3) := by decide +kernel
theorem dX11_limit_54 : decode cX11_limit 54 = .ok (.invokevirtual 35, 3) := by decide +kernel
theorem dX11_limit_57 : decode cX11_limit 57 = .ok (.pop, 1) := by decide +kernel
theorem dX11_limit_58 : decode cX11_limit 58 = .ok (.iload 5, 2) := by decide +kernel
theorem dX11_limit_60 : decode cX11_limit 60 = .ok (.ireturn, 1) := by decide +kernel
theorem dX11_out_0 : decode cX11_out 0 = .ok (.iload_n 1, 1) := by decide +kernel
theorem dX11_out_1 : decode cX11_out 1 = .ok (.bipush 6, 2) := by decide +kernel
theorem dX11_out_3 : decode cX11_out 3 = .ok (.invokestatic 16, 3) := by decide +kernel
theorem dX11_out_6 : decode cX11_out 6 = .ok (.aload_n 0, 1) := by decide +kernel
theorem dX11_out_7 : decode cX11_out 7 = .ok (.getfield 10, 3) := by decide +kernel
theorem dX11_out_10 : decode cX11_out 10 = .ok (.getfield 57, 3) := by decide +kernel
theorem dX11_out_13 : decode cX11_out 13 = .ok (.iload_n 1, 1) := by decide +kernel
theorem dX11_out_14 : decode cX11_out 14 = .ok (.invokevirtual 61, 3) := by decide +kernel
theorem dX11_out_17 : decode cX11_out 17 = .ok (.istore_n 3, 1) := by decide +kernel
theorem dX11_out_18 : decode cX11_out 18 = .ok (.aload_n 0, 1) := by decide +kernel
theorem dX11_out_19 : decode cX11_out 19 = .ok (.getfield 10, 3) := by decide +kernel
theorem dX11_out_22 : decode cX11_out 22 = .ok (.getfield 57, 3) := by decide +kernel
theorem dX11_out_25 : decode cX11_out 25 = .ok (.iload_n 1, 1) := by decide +kernel
theorem dX11_out_26 : decode cX11_out 26 = .ok (.iload_n 2, 1) := by decide +kernel
theorem dX11_out_27 : decode cX11_out 27 = .ok (.invokevirtual 67, 3) := by decide +kernel
theorem dX11_out_30 : decode cX11_out 30 = .ok (.aload_n 0, 1) := by decide +kernel
theorem dX11_out_31 : decode cX11_out 31 = .ok (.getfield 10, 3) := by decide +kernel
theorem dX11_out_34 : decode cX11_out 34 = .ok (.invokevirtual 35, 3) := by decide +kernel
theorem dX11_out_37 : decode cX11_out 37 = .ok (.pop, 1) := by decide +kernel
theorem dX11_out_38 : decode cX11_out 38 = .ok (.iload_n 3, 1) := by decide +kernel
theorem dX11_out_39 : decode cX11_out 39 = .ok (.ireturn, 1) := by decide +kernel
theorem dX11_holiday_0 : decode cX11_holiday 0 = .ok (.iload_n 1, 1) := by decide +kernel
theorem dX11_holiday_1 : decode cX11_holiday 1 = .ok (.iconst 3, 1) := by decide +kernel
theorem dX11_holiday_2 : decode cX11_holiday 2 = .ok (.invokestatic 16, 3) := by decide +kernel
theorem dX11_holiday_5 : decode cX11_holiday 5 = .ok (.iload_n 2, 1) := by decide +kernel
theorem dX11_holiday_6 : decode cX11_holiday 6 = .ok (.iconst 0, 1) := by decide +kernel
theorem dX11_holiday_7 : decode cX11_holiday 7 = .ok (.sipush 999, 3) := by decide +kernel
theorem dX11_holiday_10 : decode cX11_holiday 10 = .ok (.invokestatic 21, 3) := by decide +kernel
theorem dX11_holiday_13 : decode cX11_holiday 13 = .ok (.aload_n 0, 1) := by decide +kernel
theorem dX11_holiday_14 : decode cX11_holiday 14 = .ok (.getfield 10, 3) := by decide +kernel
theorem dX11_holiday_17 : decode cX11_holiday 17 = .ok (.getfield 71, 3) := by decide +kernel
theorem dX11_holiday_20 : decode cX11_holiday 20 = .ok (.iload_n 1, 1) := by decide +kernel
theorem dX11_holiday_21 : decode cX11_holiday 21 = .ok (.iload_n 2, 1) := by decide +kernel
theorem dX11_holiday_22 : decode cX11_holiday 22 = .ok (.iload_n 3, 1) := by decide +kernel
theorem dX11_holiday_23 : decode cX11_holiday 23 = .ok (.invokevirtual 75, 3) := by decide +kernel
theorem dX11_holiday_26 : decode cX11_holiday 26 = .ok (.aload_n 0, 1) := by decide +kernel
theorem dX11_holiday_27 : decode cX11_holiday 27 = .ok (.getfield 10, 3) := by decide +kernel
theorem dX11_holiday_30 : decode cX11_holiday 30 = .ok (.invokevirtual 35, 3) := by decide +kernel
theorem dX11_holiday_33 : decode cX11_holiday 33 = .ok (.pop, 1) := by decide +kernel
theorem dX11_holiday_34 : decode cX11_holiday 34 = .ok (.aload_n 0, 1) := by decide +kernel
theorem dX11_holiday_35 : decode cX11_holiday 35 = .ok (.getfield 10, 3) := by decide +kernel
theorem dX11_holiday_38 : decode cX11_holiday 38 = .ok (.getfield 71, 3) := by decide +kernel
theorem dX11_holiday_41 : decode cX11_holiday 41 = .ok (.iload_n 1, 1) := by decide +kernel
theorem dX11_holiday_42 : decode cX11_holiday 42 = .ok (.iload_n 2, 1) := by decide +kernel
theorem dX11_holiday_43 : decode cX11_holiday 43 = .ok (.invokevirtual 81, 3) := by decide +kernel
theorem dX11_holiday_46 : decode cX11_holiday 46 = .ok (.ireturn, 1) := by decide +kernel
theorem dX11_list_0 : decode cX11_list 0 = .ok (.iload_n 1, 1) := by decide +kernel
theorem dX11_list_1 : decode cX11_list 1 = .ok (.bipush 20, 2) := by decide +kernel
theorem dX11_list_3 : decode cX11_list 3 = .ok (.invokestatic 16, 3) := by decide +kernel
theorem dX11_list_6 : decode cX11_list 6 = .ok (.aload_n 0, 1) := by decide +kernel
theorem dX11_list_7 : decode cX11_list 7 = .ok (.getfield 10, 3) := by decide +kernel
theorem dX11_list_10 : decode cX11_list 10 = .ok (.getfield 85, 3) := by decide +kernel
theorem dX11_list_13 : decode cX11_list 13 = .ok (.iload_n 1, 1) := by decide +kernel
theorem dX11_list_14 : decode cX11_list 14 = .ok (.iload_n 2, 1) := by decide +kernel
theorem dX11_list_15 : decode cX11_list 15 = .ok (.invokevirtual 67, 3) := by decide +kernel
theorem dX11_list_18 : decode cX11_list 18 = .ok (.iload_n 2, 1) := by decide +kernel
theorem dX11_list_19 : decode cX11_list 19 = .ok (.ifCond .eq 14, 3) := by decide +kernel
theorem dX11_list_22 : decode cX11_list 22 = .ok (.aload_n 0, 1) := by decide +kernel
theorem dX11_list_23 : decode cX11_list 23 = .ok (.getfield 10, 3) := by decide +kernel
theorem dX11_list_26 : decode cX11_list 26 = .ok (.iload_n 1, 1) := by decide +kernel
theorem dX11_list_27 : decode cX11_list 27 = .ok (.invokevirtual 88, 3) := by decide +kernel
theorem dX11_list_30 : decode cX11_list 30 = .ok (.goto 4, 3) := by decide +kernel
theorem dX11_list_33 : decode cX11_list 33 = .ok (.iconst 0, 1) := by decide +kernel
theorem dX11_list_34 : decode cX11_list 34 = .ok (.istore_n 3, 1) := by decide +kernel
theorem dX11_list_35 : decode cX11_list 35 = .ok (.aload_n 0, 1) := by decide +kernel
theorem dX11_list_36 : decode cX11_list 36 = .ok (.getfield 10, 3) := by decide +kernel
theorem dX11_list_39 : decode cX11_list 39 = .ok (.invokevirtual 35, 3) := by decide +kernel
theorem dX11_list_42 : decode cX11_list 42 = .ok (.pop, 1) := by decide +kernel
theorem dX11_list_43 : decode cX11_list 43 = .ok (.iload_n 3, 1) := by decide +kernel
theorem dX11_list_44 : decode cX11_list 44 = .ok (.ireturn, 1) := by decide +kernel
theorem dX11_send_0 : decode cX11_send 0 = .ok (.iload_n 1, 1) := by decide +kernel
theorem dX11_send_1 : decode cX11_send 1 = .ok (.bipush 6, 2) := by decide +kernel
theorem dX11_send_3 : decode cX11_send 3 = .ok (.invokestatic 16, 3) := by decide +kernel
theorem dX11_send_6 : decode cX11_send 6 = .ok (.iload_n 2, 1) := by decide +kernel
theorem dX11_send_7 : decode cX11_send 7 = .ok (.bipush 100, 2) := by decide +kernel
theorem dX11_send_9 : decode cX11_send 9 = .ok (.invokestatic 16, 3) := by decide +kernel
theorem dX11_send_12 : decode cX11_send 12 = .ok (.iload_n 3, 1) := by decide +kernel
theorem dX11_send_13 : decode cX11_send 13 = .ok (.bipush 6, 2) := by decide +kernel
theorem dX11_send_15 : decode cX11_send 15 = .ok (.invokestatic 16, 3) := by decide +kernel
theorem dX11_send_18 : decode cX11_send 18 = .ok (.iload 4, 2) := by decide +kernel
theorem dX11_send_20 : decode cX11_send 20 = .ok (.iconst 3, 1) := by decide +kernel
theorem dX11_send_21 : decode cX11_send 21 = .ok (.invokestatic 16, 3) := by decide +kernel
theorem dX11_send_24 : decode cX11_send 24 = .ok (.iload 6, 2) := by decide +kernel
theorem dX11_send_26 : decode cX11_send 26 = .ok (.bipush 20, 2) := by decide +kernel
theorem dX11_send_28 : decode cX11_send 28 = .ok (.invokestatic 16, 3) := by decide +kernel
theorem dX11_send_31 : decode cX11_send 31 = .ok (.iload_n 1, 1) := by decide +kernel
theorem dX11_send_32 : decode cX11_send 32 = .ok (.iload_n 3, 1) := by decide +kernel
theorem dX11_send_33 : decode cX11_send 33 = .ok (.invokestatic 47, 3) := by decide +kernel
theorem dX11_send_36 : decode cX11_send 36 = .ok (.iload 5, 2) := by decide +kernel
theorem dX11_send_38 : decode cX11_send 38 = .ok (.iconst 1, 1) := by decide +kernel
theorem dX11_send_39 : decode cX11_send 39 = .ok (.ldc 20, 2) := by decide +kernel
theorem dX11_send_41 : decode cX11_send 41 = .ok (.invokestatic 21, 3) := by decide +kernel
theorem dX11_send_44 : decode cX11_send 44 = .ok (.iload 7, 2) := by decide +kernel
theorem dX11_send_46 : decode cX11_send 46 = .ok (.iconst 0, 1) := by decide +kernel
theorem dX11_send_47 : decode cX11_send 47 = .ok (.iconst 2, 1) := by decide +kernel
theorem dX11_send_48 : decode cX11_send 48 = .ok (.invokestatic 21, 3) := by decide +kernel
theorem dX11_send_51 : decode cX11_send 51 = .ok (.iload 9, 2) := by decide +kernel
theorem dX11_send_53 : decode cX11_send 53 = .ok (.iconst 0, 1) := by decide +kernel
theorem dX11_send_54 : decode cX11_send 54 = .ok (.sipush 999, 3) := by decide +kernel
theorem dX11_send_57 : decode cX11_send 57 = .ok (.invokestatic 21, 3) := by decide +kernel
theorem dX11_send_60 : decode cX11_send 60 = .ok (.aload_n 0, 1) := by decide +kernel
theorem dX11_send_61 : decode cX11_send 61 = .ok (.getfield 10, 3) := by decide +kernel
theorem dX11_send_64 : decode cX11_send 64 = .ok (.getfield 57, 3) := by decide +kernel
theorem dX11_send_67 : decode cX11_send 67 = .ok (.iload_n 1, 1) := by decide +kernel
theorem dX11_send_68 : decode cX11_send 68 = .ok (.invokevirtual 61, 3) := by decide +kernel
theorem dX11_send_71 : decode cX11_send 71 = .ok (.ifCond .ne 7, 3) := by decide +kernel
theorem dX11_send_74 : decode cX11_send 74 = .ok (.iconst 1, 1) := by decide +kernel
theorem dX11_send_75 : decode cX11_send 75 = .ok (.goto 4, 3) := by decide +kernel
theorem dX11_send_78 : decode cX11_send 78 = .ok (.iconst 0, 1) := by decide +kernel
theorem dX11_send_79 : decode cX11_send 79 = .ok (.invokestatic 92, 3) := by decide +kernel
theorem dX11_send_82 : decode cX11_send 82 = .ok (.new 96, 3) := by decide +kernel
theorem dX11_send_85 : decode cX11_send 85 = .ok (.dup, 1) := by decide +kernel
theorem dX11_send_86 : decode cX11_send 86 = .ok (.iload_n 1, 1) := by decide +kernel
theorem dX11_send_87 : decode cX11_send 87 = .ok (.iload_n 3, 1) := by decide +kernel
theorem dX11_send_88 : decode cX11_send 88 = .ok (.iload 4, 2) := by decide +kernel
theorem dX11_send_90 : decode cX11_send 90 = .ok (.iload 5, 2) := by decide +kernel
theorem dX11_send_92 : decode cX11_send 92 = .ok (.invokespecial 98, 3) := by decide +kernel
theorem dX11_send_95 : decode cX11_send 95 = .ok (.astore 11, 2) := by decide +kernel
theorem dX11_send_97 : decode cX11_send 97 = .ok (.aload 11, 2) := by decide +kernel
theorem dX11_send_99 : decode cX11_send 99 = .ok (.iload 6, 2) := by decide +kernel
theorem dX11_send_101 : decode cX11_send 101 = .ok (.iload 7, 2) := by decide +kernel
theorem dX11_send_103 : decode cX11_send 103 = .ok (.iload 8, 2) := by decide +kernel
theorem dX11_send_105 : decode cX11_send 105 = .ok (.iload 9, 2) := by decide +kernel
theorem dX11_send_107 : decode cX11_send 107 = .ok (.iload 10, 2) := by decide +kernel
theorem dX11_send_109 : decode cX11_send 109 = .ok (.invokevirtual 101, 3) := by decide +kernel
theorem dX11_send_112 : decode cX11_send 112 = .ok (.aload_n 0, 1) := by decide +kernel
theorem dX11_send_113 : decode cX11_send 113 = .ok (.getfield 10, 3) := by decide +kernel
theorem dX11_send_116 : decode cX11_send 116 = .ok (.getfield 105, 3) := by decide +kernel
theorem dX11_send_119 : decode cX11_send 119 = .ok (.iload_n 1, 1) := by decide +kernel
theorem dX11_send_120 : decode cX11_send 120 = .ok (.iload_n 2, 1) := by decide +kernel
theorem dX11_send_121 : decode cX11_send 121 = .ok (.invokevirtual 109, 3) := by decide +kernel
theorem dX11_send_124 : decode cX11_send 124 = .ok (.astore 12, 2) := by decide +kernel
theorem dX11_send_126 : decode cX11_send 126 = .ok (.aload 12, 2) := by decide +kernel
theorem dX11_send_128 : decode cX11_send 128 = .ok (.ifnull 35, 3) := by decide +kernel
theorem dX11_send_131 : decode cX11_send 131 = .ok (.aload 12, 2) := by decide +kernel
theorem dX11_send_133 : decode cX11_send 133 = .ok (.getfield 115, 3) := by decide +kernel
theorem dX11_send_136 : decode cX11_send 136 = .ok (.aload 11, 2) := by decide +kernel
theorem dX11_send_138 : decode cX11_send 138 = .ok (.invokevirtual 121, 3) := by decide +kernel
theorem dX11_send_141 : decode cX11_send 141 = .ok (.invokestatic 92, 3) := by decide +kernel
theorem dX11_send_144 : decode cX11_send 144 = .ok (.aload_n 0, 1) := by decide +kernel
theorem dX11_send_145 : decode cX11_send 145 = .ok (.getfield 10, 3) := by decide +kernel
theorem dX11_send_148 : decode cX11_send 148 = .ok (.dup, 1) := by decide +kernel
theorem dX11_send_149 : decode cX11_send 149 = .ok (.getfield 125, 3) := by decide +kernel
theorem dX11_send_152 : decode cX11_send 152 = .ok (.iconst 1, 1) := by decide +kernel
theorem dX11_send_153 : decode cX11_send 153 = .ok (.iadd, 1) := by decide +kernel
theorem dX11_send_154 : decode cX11_send 154 = .ok (.putfield 125, 3) := by decide +kernel
theorem dX11_send_157 : decode cX11_send 157 = .ok (.aload 12, 2) := by decide +kernel
theorem dX11_send_159 : decode cX11_send 159 = .ok (.getfield 129, 3) := by decide +kernel
theorem dX11_send_162 : decode cX11_send 162 = .ok (.ireturn, 1) := by decide +kernel
theorem dX11_send_163 : decode cX11_send 163 = .ok (.aload_n 0, 1) := by decide +kernel
theorem dX11_send_164 : decode cX11_send 164 = .ok (.getfield 10, 3) := by decide +kernel
theorem dX11_send_167 : decode cX11_send 167 = .ok (.getfield 105, 3) := by decide +kernel
theorem dX11_send_170 : decode cX11_send 170 = .ok (.invokevirtual 132, 3) := by decide +kernel
theorem dX11_send_173 : decode cX11_send 173 = .ok (.ifCond .ne 7, 3) := by decide +kernel
theorem dX11_send_176 : decode cX11_send 176 = .ok (.iconst 1, 1) := by decide +kernel
theorem dX11_send_177 : decode cX11_send 177 = .ok (.goto 4, 3) := by decide +kernel
theorem dX11_send_180 : decode cX11_send 180 = .ok (.iconst 0, 1) := by decide +kernel
theorem dX11_send_181 : decode cX11_send 181 = .ok (.invokestatic 92, 3) := by decide +kernel
theorem dX11_send_184 : decode cX11_send 184 = .ok (.aload_n 0, 1) := by decide +kernel
theorem dX11_send_185 : decode cX11_send 185 = .ok (.getfield 10, 3) := by decide +kernel
theorem dX11_send_188 : decode cX11_send 188 = .ok (.aload 11, 2) := by decide +kernel
theorem dX11_send_190 : decode cX11_send 190 = .ok (.invokevirtual 136, 3) := by decide +kernel
theorem dX11_send_193 : decode cX11_send 193 = .ok (.istore 13, 2) := by decide +kernel
theorem dX11_send_195 : decode cX11_send 195 = .ok (.aload_n 0, 1) := by decide +kernel
theorem dX11_send_196 : decode cX11_send 196 = .ok (.getfield 10, 3) := by decide +kernel
theorem dX11_send_199 : decode cX11_send 199 = .ok (.getfield 105, 3) := by decide +kernel
theorem dX11_send_202 : decode cX11_send 202 = .ok (.iload_n 1, 1) := by decide +kernel
theorem dX11_send_203 : decode cX11_send 203 = .ok (.iload_n 2, 1) := by decide +kernel
theorem dX11_send_204 : decode cX11_send 204 = .ok (.iload 13, 2) := by decide +kernel
theorem dX11_send_206 : decode cX11_send 206 = .ok (.invokevirtual 140, 3) := by decide +kernel
theorem dX11_send_209 : decode cX11_send 209 = .ok (.aload_n 0, 1) := by decide +kernel
theorem dX11_send_210 : decode cX11_send 210 = .ok (.getfield 10, 3) := by decide +kernel
theorem dX11_send_213 : decode cX11_send 213 = .ok (.invokevirtual 35, 3) := by decide +kernel
theorem dX11_send_216 : decode cX11_send 216 = .ok (.pop, 1) := by decide +kernel
theorem dX11_send_217 : decode cX11_send 217 = .ok (.iload 13, 2) := by decide +kernel
theorem dX11_send_219 : decode cX11_send 219 = .ok (.ireturn, 1) := by decide +kernel
theorem dX11_doubles_0 : decode cX11_doubles 0 = .ok (.aload_n 0, 1) := by decide +kernel
theorem dX11_doubles_1 : decode cX11_doubles 1 = .ok (.getfield 10, 3) := by decide +kernel
theorem dX11_doubles_4 : decode cX11_doubles 4 = .ok (.getfield 125, 3) := by decide +kernel
theorem dX11_doubles_7 : decode cX11_doubles 7 = .ok (.ireturn, 1) := by decide +kernel
theorem dX11_join_0 : decode cX11_join 0 = .ok (.aload_n 0, 1) := by decide +kernel
theorem dX11_join_1 : decode cX11_join 1 = .ok (.iload_n 1, 1) := by decide +kernel
theorem dX11_join_2 : decode cX11_join 2 = .ok (.invokevirtual 143, 3) := by decide +kernel
theorem dX11_join_5 : decode cX11_join 5 = .ok (.astore_n 3, 1) := by decide +kernel
theorem dX11_join_6 : decode cX11_join 6 = .ok (.aload_n 0, 1) := by decide +kernel
theorem dX11_join_7 : decode cX11_join 7 = .ok (.iload_n 2, 1) := by decide +kernel
theorem dX11_join_8 : decode cX11_join 8 = .ok (.invokevirtual 143, 3) := by decide +kernel
theorem dX11_join_11 : decode cX11_join 11 = .ok (.astore 4, 2) := by decide +kernel
theorem dX11_join_13 : decode cX11_join 13 = .ok (.aload_n 3, 1) := by decide +kernel
theorem dX11_join_14 : decode cX11_join 14 = .ok (.aload 4, 2) := by decide +kernel
theorem dX11_join_16 : decode cX11_join 16 = .ok (.invokevirtual 147, 3) := by decide +kernel
theorem dX11_join_19 : decode cX11_join 19 = .ok (.invokestatic 92, 3) := by decide +kernel
theorem dX11_join_22 : decode cX11_join 22 = .ok (.aload_n 3, 1) := by decide +kernel
theorem dX11_join_23 : decode cX11_join 23 = .ok (.aload 4, 2) := by decide +kernel
theorem dX11_join_25 : decode cX11_join 25 = .ok (.putfield 151, 3) := by decide +kernel
theorem dX11_join_28 : decode cX11_join 28 = .ok (.aload 4, 2) := by decide +kernel
theorem dX11_join_30 : decode cX11_join 30 = .ok (.aload_n 3, 1) := by decide +kernel
theorem dX11_join_31 : decode cX11_join 31 = .ok (.putfield 151, 3) := by decide +kernel
theorem dX11_join_34 : decode cX11_join 34 = .ok (.aload_n 0, 1) := by decide +kernel
theorem dX11_join_35 : decode cX11_join 35 = .ok (.getfield 10, 3) := by decide +kernel
theorem dX11_join_38 : decode cX11_join 38 = .ok (.invokevirtual 35, 3) := by decide +kernel
theorem dX11_join_41 : decode cX11_join 41 = .ok (.pop, 1) := by decide +kernel
theorem dX11_join_42 : decode cX11_join 42 = .ok (.return_, 1) := by decide +kernel
theorem dX11_withdraw_0 : decode cX11_withdraw 0 = .ok (.aload_n 0, 1) := by decide +kernel
theorem dX11_withdraw_1 : decode cX11_withdraw 1 = .ok (.iload_n 1, 1) := by decide +kernel
theorem dX11_withdraw_2 : decode cX11_withdraw 2 = .ok (.invokevirtual 143, 3) := by decide +kernel
theorem dX11_withdraw_5 : decode cX11_withdraw 5 = .ok (.astore_n 2, 1) := by decide +kernel
theorem dX11_withdraw_6 : decode cX11_withdraw 6 = .ok (.aload_n 2, 1) := by decide +kernel
theorem dX11_withdraw_7 : decode cX11_withdraw 7 = .ok (.invokevirtual 155, 3) := by decide +kernel
theorem dX11_withdraw_10 : decode cX11_withdraw 10 = .ok (.ifCond .ne 7, 3) := by decide +kernel
theorem dX11_withdraw_13 : decode cX11_withdraw 13 = .ok (.iconst 1, 1) := by decide +kernel
theorem dX11_withdraw_14 : decode cX11_withdraw 14 = .ok (.goto 4, 3) := by decide +kernel
theorem dX11_withdraw_17 : decode cX11_withdraw 17 = .ok (.iconst 0, 1) := by decide +kernel
theorem dX11_withdraw_18 : decode cX11_withdraw 18 = .ok (.invokestatic 92, 3) := by decide +kernel
theorem dX11_withdraw_21 : decode cX11_withdraw 21 = .ok (.aload_n 2, 1) := by decide +kernel
theorem dX11_withdraw_22 : decode cX11_withdraw 22 = .ok (.invokevirtual 158, 3) := by decide +kernel
theorem dX11_withdraw_25 : decode cX11_withdraw 25 = .ok (.istore_n 3, 1) := by decide +kernel
theorem dX11_withdraw_26 : decode cX11_withdraw 26 = .ok (.aload_n 0, 1) := by decide +kernel
theorem dX11_withdraw_27 : decode cX11_withdraw 27 = .ok (.getfield 10, 3) := by decide +kernel
theorem dX11_withdraw_30 : decode cX11_withdraw 30 = .ok (.invokevirtual 35, 3) := by decide +kernel
theorem dX11_withdraw_33 : decode cX11_withdraw 33 = .ok (.pop, 1) := by decide +kernel
theorem dX11_withdraw_34 : decode cX11_withdraw 34 = .ok (.iload_n 3, 1) := by decide +kernel
theorem dX11_withdraw_35 : decode cX11_withdraw 35 = .ok (.ireturn, 1) := by decide +kernel
theorem dX11_release_0 : decode cX11_release 0 = .ok (.aload_n 0, 1) := by decide +kernel
theorem dX11_release_1 : decode cX11_release 1 = .ok (.iload_n 1, 1) := by decide +kernel
theorem dX11_release_2 : decode cX11_release 2 = .ok (.invokevirtual 143, 3) := by decide +kernel
theorem dX11_release_5 : decode cX11_release 5 = .ok (.astore_n 3, 1) := by decide +kernel
theorem dX11_release_6 : decode cX11_release 6 = .ok (.iload_n 2, 1) := by decide +kernel
theorem dX11_release_7 : decode cX11_release 7 = .ok (.iconst 4, 1) := by decide +kernel
theorem dX11_release_8 : decode cX11_release 8 = .ok (.invokestatic 16, 3) := by decide +kernel
theorem dX11_release_11 : decode cX11_release 11 = .ok (.aload_n 3, 1) := by decide +kernel
theorem dX11_release_12 : decode cX11_release 12 = .ok (.getfield 161, 3) := by decide +kernel
theorem dX11_release_15 : decode cX11_release 15 = .ok (.iconst 1, 1) := by decide +kernel
theorem dX11_release_16 : decode cX11_release 16 = .ok (.if_icmp .ne 15, 3) := by decide +kernel
theorem dX11_release_19 : decode cX11_release 19 = .ok (.aload_n 3, 1) := by decide +kernel
theorem dX11_release_20 : decode cX11_release 20 = .ok (.getfield 164, 3) := by decide +kernel
theorem dX11_release_23 : decode cX11_release 23 = .ok (.iload_n 2, 1) := by decide +kernel
theorem dX11_release_24 : decode cX11_release 24 = .ok (.if_icmp .eq 7, 3) := by decide +kernel
theorem dX11_release_27 : decode cX11_release 27 = .ok (.iconst 1, 1) := by decide +kernel
theorem dX11_release_28 : decode cX11_release 28 = .ok (.goto 4, 3) := by decide +kernel
theorem dX11_release_31 : decode cX11_release 31 = .ok (.iconst 0, 1) := by decide +kernel
theorem dX11_release_32 : decode cX11_release 32 = .ok (.invokestatic 92, 3) := by decide +kernel
theorem dX11_release_35 : decode cX11_release 35 = .ok (.aload_n 3, 1) := by decide +kernel
theorem dX11_release_36 : decode cX11_release 36 = .ok (.getfield 164, 3) := by decide +kernel
theorem dX11_release_39 : decode cX11_release 39 = .ok (.iconst (-1), 1) := by decide +kernel
theorem dX11_release_40 : decode cX11_release 40 = .ok (.if_icmp .eq 7, 3) := by decide +kernel
theorem dX11_release_43 : decode cX11_release 43 = .ok (.iconst 1, 1) := by decide +kernel
theorem dX11_release_44 : decode cX11_release 44 = .ok (.goto 4, 3) := by decide +kernel
theorem dX11_release_47 : decode cX11_release 47 = .ok (.iconst 0, 1) := by decide +kernel
theorem dX11_release_48 : decode cX11_release 48 = .ok (.istore 4, 2) := by decide +kernel
theorem dX11_release_50 : decode cX11_release 50 = .ok (.aload_n 3, 1) := by decide +kernel
theorem dX11_release_51 : decode cX11_release 51 = .ok (.iload_n 2, 1) := by decide +kernel
theorem dX11_release_52 : decode cX11_release 52 = .ok (.putfield 164, 3) := by decide +kernel
theorem dX11_release_55 : decode cX11_release 55 = .ok (.iload 4, 2) := by decide +kernel
theorem dX11_release_57 : decode cX11_release 57 = .ok (.ifCond .eq 16, 3) := by decide +kernel
theorem dX11_release_60 : decode cX11_release 60 = .ok (.aload_n 3, 1) := by decide +kernel
theorem dX11_release_61 : decode cX11_release 61 = .ok (.iconst 1, 1) := by decide +kernel
theorem dX11_release_62 : decode cX11_release 62 = .ok (.putfield 167, 3) := by decide +kernel
theorem dX11_release_65 : decode cX11_release 65 = .ok (.aload_n 0, 1) := by decide +kernel
theorem dX11_release_66 : decode cX11_release 66 = .ok (.getfield 10, 3) := by decide +kernel
theorem dX11_release_69 : decode cX11_release 69 = .ok (.aload_n 3, 1) := by decide +kernel
theorem dX11_release_70 : decode cX11_release 70 = .ok (.invokevirtual 171, 3) := by decide +kernel
theorem dX11_release_73 : decode cX11_release 73 = .ok (.aload_n 0, 1) := by decide +kernel
theorem dX11_release_74 : decode cX11_release 74 = .ok (.getfield 10, 3) := by decide +kernel
theorem dX11_release_77 : decode cX11_release 77 = .ok (.invokevirtual 35, 3) := by decide +kernel
theorem dX11_release_80 : decode cX11_release 80 = .ok (.pop, 1) := by decide +kernel
theorem dX11_release_81 : decode cX11_release 81 = .ok (.iload 4, 2) := by decide +kernel
theorem dX11_release_83 : decode cX11_release 83 = .ok (.ireturn, 1) := by decide +kernel
theorem dX11_refuse_0 : decode cX11_refuse 0 = .ok (.aload_n 0, 1) := by decide +kernel
theorem dX11_refuse_1 : decode cX11_refuse 1 = .ok (.iload_n 1, 1) := by decide +kernel
theorem dX11_refuse_2 : decode cX11_refuse 2 = .ok (.invokevirtual 143, 3) := by decide +kernel
theorem dX11_refuse_5 : decode cX11_refuse 5 = .ok (.astore_n 2, 1) := by decide +kernel
theorem dX11_refuse_6 : decode cX11_refuse 6 = .ok (.aload_n 2, 1) := by decide +kernel
theorem dX11_refuse_7 : decode cX11_refuse 7 = .ok (.getfield 161, 3) := by decide +kernel
theorem dX11_refuse_10 : decode cX11_refuse 10 = .ok (.iconst 1, 1) := by decide +kernel
theorem dX11_refuse_11 : decode cX11_refuse 11 = .ok (.if_icmp .ne 7, 3) := by decide +kernel
theorem dX11_refuse_14 : decode cX11_refuse 14 = .ok (.iconst 1, 1) := by decide +kernel
theorem dX11_refuse_15 : decode cX11_refuse 15 = .ok (.goto 4, 3) := by decide +kernel
theorem dX11_refuse_18 : decode cX11_refuse 18 = .ok (.iconst 0, 1) := by decide +kernel
theorem dX11_refuse_19 : decode cX11_refuse 19 = .ok (.invokestatic 92, 3) := by decide +kernel
theorem dX11_refuse_22 : decode cX11_refuse 22 = .ok (.aload_n 2, 1) := by decide +kernel
theorem dX11_refuse_23 : decode cX11_refuse 23 = .ok (.invokevirtual 158, 3) := by decide +kernel
theorem dX11_refuse_26 : decode cX11_refuse 26 = .ok (.istore_n 3, 1) := by decide +kernel
theorem dX11_refuse_27 : decode cX11_refuse 27 = .ok (.aload_n 0, 1) := by decide +kernel
theorem dX11_refuse_28 : decode cX11_refuse 28 = .ok (.getfield 10, 3) := by decide +kernel
theorem dX11_refuse_31 : decode cX11_refuse 31 = .ok (.invokevirtual 35, 3) := by decide +kernel
theorem dX11_refuse_34 : decode cX11_refuse 34 = .ok (.pop, 1) := by decide +kernel
theorem dX11_refuse_35 : decode cX11_refuse 35 = .ok (.iload_n 3, 1) := by decide +kernel
theorem dX11_refuse_36 : decode cX11_refuse 36 = .ok (.ireturn, 1) := by decide +kernel
theorem dX11_offset_0 : decode cX11_offset 0 = .ok (.iload_n 1, 1) := by decide +kernel
theorem dX11_offset_1 : decode cX11_offset 1 = .ok (.iconst 3, 1) := by decide +kernel
theorem dX11_offset_2 : decode cX11_offset 2 = .ok (.invokestatic 16, 3) := by decide +kernel
theorem dX11_offset_5 : decode cX11_offset 5 = .ok (.aload_n 0, 1) := by decide +kernel
theorem dX11_offset_6 : decode cX11_offset 6 = .ok (.getfield 10, 3) := by decide +kernel
theorem dX11_offset_9 : decode cX11_offset 9 = .ok (.iload_n 1, 1) := by decide +kernel
theorem dX11_offset_10 : decode cX11_offset 10 = .ok (.iconst 2, 1) := by decide +kernel
theorem dX11_offset_11 : decode cX11_offset 11 = .ok (.invokevirtual 175, 3) := by decide +kernel
theorem dX11_offset_14 : decode cX11_offset 14 = .ok (.istore_n 2, 1) := by decide +kernel
theorem dX11_offset_15 : decode cX11_offset 15 = .ok (.aload_n 0, 1) := by decide +kernel
theorem dX11_offset_16 : decode cX11_offset 16 = .ok (.getfield 10, 3) := by decide +kernel
theorem dX11_offset_19 : decode cX11_offset 19 = .ok (.invokevirtual 35, 3) := by decide +kernel
theorem dX11_offset_22 : decode cX11_offset 22 = .ok (.pop, 1) := by decide +kernel
theorem dX11_offset_23 : decode cX11_offset 23 = .ok (.iload_n 2, 1) := by decide +kernel
theorem dX11_offset_24 : decode cX11_offset 24 = .ok (.ireturn, 1) := by decide +kernel
theorem dX11_recall_0 : decode cX11_recall 0 = .ok (.aload_n 0, 1) := by decide +kernel
theorem dX11_recall_1 : decode cX11_recall 1 = .ok (.iload_n 1, 1) := by decide +kernel
theorem dX11_recall_2 : decode cX11_recall 2 = .ok (.invokevirtual 143, 3) := by decide +kernel
theorem dX11_recall_5 : decode cX11_recall 5 = .ok (.astore_n 2, 1) := by decide +kernel
theorem dX11_recall_6 : decode cX11_recall 6 = .ok (.aload_n 0, 1) := by decide +kernel
theorem dX11_recall_7 : decode cX11_recall 7 = .ok (.getfield 10, 3) := by decide +kernel
theorem dX11_recall_10 : decode cX11_recall 10 = .ok (.getfield 71, 3) := by decide +kernel
theorem dX11_recall_13 : decode cX11_recall 13 = .ok (.getfield 178, 3) := by decide +kernel
theorem dX11_recall_16 : decode cX11_recall 16 = .ok (.istore_n 3, 1) := by decide +kernel
theorem dX11_recall_17 : decode cX11_recall 17 = .ok (.aload_n 2, 1) := by decide +kernel
theorem dX11_recall_18 : decode cX11_recall 18 = .ok (.getfield 161, 3) := by decide +kernel
theorem dX11_recall_21 : decode cX11_recall 21 = .ok (.iconst 4, 1) := by decide +kernel
theorem dX11_recall_22 : decode cX11_recall 22 = .ok (.if_icmp .ne 7, 3) := by decide +kernel
theorem dX11_recall_25 : decode cX11_recall 25 = .ok (.iconst 1, 1) := by decide +kernel
theorem dX11_recall_26 : decode cX11_recall 26 = .ok (.goto 4, 3) := by decide +kernel
theorem dX11_recall_29 : decode cX11_recall 29 = .ok (.iconst 0, 1) := by decide +kernel
theorem dX11_recall_30 : decode cX11_recall 30 = .ok (.invokestatic 92, 3) := by decide +kernel
theorem dX11_recall_33 : decode cX11_recall 33 = .ok (.iload_n 3, 1) := by decide +kernel
theorem dX11_recall_34 : decode cX11_recall 34 = .ok (.aload_n 2, 1) := by decide +kernel
theorem dX11_recall_35 : decode cX11_recall 35 = .ok (.getfield 181, 3) := by decide +kernel
theorem dX11_recall_38 : decode cX11_recall 38 = .ok (.isub, 1) := by decide +kernel
theorem dX11_recall_39 : decode cX11_recall 39 = .ok (.iconst 3, 1) := by decide +kernel
theorem dX11_recall_40 : decode cX11_recall 40 = .ok (.if_icmp .gt 7, 3) := by decide +kernel
theorem dX11_recall_43 : decode cX11_recall 43 = .ok (.iconst 1, 1) := by decide +kernel
theorem dX11_recall_44 : decode cX11_recall 44 = .ok (.goto 4, 3) := by decide +kernel
theorem dX11_recall_47 : decode cX11_recall 47 = .ok (.iconst 0, 1) := by decide +kernel
theorem dX11_recall_48 : decode cX11_recall 48 = .ok (.invokestatic 92, 3) := by decide +kernel
theorem dX11_recall_51 : decode cX11_recall 51 = .ok (.aload_n 2, 1) := by decide +kernel
theorem dX11_recall_52 : decode cX11_recall 52 = .ok (.getfield 184, 3) := by decide +kernel
theorem dX11_recall_55 : decode cX11_recall 55 = .ok (.iconst (-1), 1) := by decide +kernel
theorem dX11_recall_56 : decode cX11_recall 56 = .ok (.if_icmp .ne 7, 3) := by decide +kernel
theorem dX11_recall_59 : decode cX11_recall 59 = .ok (.iconst 1, 1) := by decide +kernel
theorem dX11_recall_60 : decode cX11_recall 60 = .ok (.goto 4, 3) := by decide +kernel
theorem dX11_recall_63 : decode cX11_recall 63 = .ok (.iconst 0, 1) := by decide +kernel
theorem dX11_recall_64 : decode cX11_recall 64 = .ok (.invokestatic 92, 3) := by decide +kernel
theorem dX11_recall_67 : decode cX11_recall 67 = .ok (.aload_n 2, 1) := by decide +kernel
theorem dX11_recall_68 : decode cX11_recall 68 = .ok (.iload_n 3, 1) := by decide +kernel
theorem dX11_recall_69 : decode cX11_recall 69 = .ok (.iconst 2, 1) := by decide +kernel
theorem dX11_recall_70 : decode cX11_recall 70 = .ok (.iadd, 1) := by decide +kernel
theorem dX11_recall_71 : decode cX11_recall 71 = .ok (.putfield 184, 3) := by decide +kernel
theorem dX11_recall_74 : decode cX11_recall 74 = .ok (.aload_n 0, 1) := by decide +kernel
theorem dX11_recall_75 : decode cX11_recall 75 = .ok (.getfield 10, 3) := by decide +kernel
theorem dX11_recall_78 : decode cX11_recall 78 = .ok (.invokevirtual 35, 3) := by decide +kernel
theorem dX11_recall_81 : decode cX11_recall 81 = .ok (.pop, 1) := by decide +kernel
theorem dX11_recall_82 : decode cX11_recall 82 = .ok (.aload_n 2, 1) := by decide +kernel
theorem dX11_recall_83 : decode cX11_recall 83 = .ok (.getfield 184, 3) := by decide +kernel
theorem dX11_recall_86 : decode cX11_recall 86 = .ok (.ireturn, 1) := by decide +kernel
theorem dX11_answer_0 : decode cX11_answer 0 = .ok (.aload_n 0, 1) := by decide +kernel
theorem dX11_answer_1 : decode cX11_answer 1 = .ok (.iload_n 1, 1) := by decide +kernel
theorem dX11_answer_2 : decode cX11_answer 2 = .ok (.invokevirtual 143, 3) := by decide +kernel
theorem dX11_answer_5 : decode cX11_answer 5 = .ok (.astore_n 3, 1) := by decide +kernel
theorem dX11_answer_6 : decode cX11_answer 6 = .ok (.aload_n 3, 1) := by decide +kernel
theorem dX11_answer_7 : decode cX11_answer 7 = .ok (.getfield 184, 3) := by decide +kernel
theorem dX11_answer_10 : decode cX11_answer 10 = .ok (.iconst (-1), 1) := by decide +kernel
theorem dX11_answer_11 : decode cX11_answer 11 = .ok (.if_icmp .eq 14, 3) := by decide +kernel
theorem dX11_answer_14 : decode cX11_answer 14 = .ok (.aload_n 3, 1) := by decide +kernel
theorem dX11_answer_15 : decode cX11_answer 15 = .ok (.getfield 187, 3) := by decide +kernel
theorem dX11_answer_18 : decode cX11_answer 18 = .ok (.ifCond .ne 7, 3) := by decide +kernel
theorem dX11_answer_21 : decode cX11_answer 21 = .ok (.iconst 1, 1) := by decide +kernel
theorem dX11_answer_22 : decode cX11_answer 22 = .ok (.goto 4, 3) := by decide +kernel
theorem dX11_answer_25 : decode cX11_answer 25 = .ok (.iconst 0, 1) := by decide +kernel
theorem dX11_answer_26 : decode cX11_answer 26 = .ok (.invokestatic 92, 3) := by decide +kernel
theorem dX11_answer_29 : decode cX11_answer 29 = .ok (.aload_n 0, 1) := by decide +kernel
theorem dX11_answer_30 : decode cX11_answer 30 = .ok (.getfield 10, 3) := by decide +kernel
theorem dX11_answer_33 : decode cX11_answer 33 = .ok (.getfield 71, 3) := by decide +kernel
theorem dX11_answer_36 : decode cX11_answer 36 = .ok (.getfield 178, 3) := by decide +kernel
theorem dX11_answer_39 : decode cX11_answer 39 = .ok (.aload_n 3, 1) := by decide +kernel
theorem dX11_answer_40 : decode cX11_answer 40 = .ok (.getfield 184, 3) := by decide +kernel
theorem dX11_answer_43 : decode cX11_answer 43 = .ok (.if_icmp .gt 7, 3) := by decide +kernel
theorem dX11_answer_46 : decode cX11_answer 46 = .ok (.iconst 1, 1) := by decide +kernel
theorem dX11_answer_47 : decode cX11_answer 47 = .ok (.goto 4, 3) := by decide +kernel
theorem dX11_answer_50 : decode cX11_answer 50 = .ok (.iconst 0, 1) := by decide +kernel
theorem dX11_answer_51 : decode cX11_answer 51 = .ok (.invokestatic 92, 3) := by decide +kernel
theorem dX11_answer_54 : decode cX11_answer 54 = .ok (.iload_n 2, 1) := by decide +kernel
theorem dX11_answer_55 : decode cX11_answer 55 = .ok (.ifCond .eq 16, 3) := by decide +kernel
theorem dX11_answer_58 : decode cX11_answer 58 = .ok (.aload_n 0, 1) := by decide +kernel
theorem dX11_answer_59 : decode cX11_answer 59 = .ok (.getfield 10, 3) := by decide +kernel
theorem dX11_answer_62 : decode cX11_answer 62 = .ok (.getfield 105, 3) := by decide +kernel
theorem dX11_answer_65 : decode cX11_answer 65 = .ok (.invokevirtual 132, 3) := by decide +kernel
theorem dX11_answer_68 : decode cX11_answer 68 = .ok (.ifCond .ne 7, 3) := by decide +kernel
theorem dX11_answer_71 : decode cX11_answer 71 = .ok (.iconst 1, 1) := by decide +kernel
theorem dX11_answer_72 : decode cX11_answer 72 = .ok (.goto 4, 3) := by decide +kernel
theorem dX11_answer_75 : decode cX11_answer 75 = .ok (.iconst 0, 1) := by decide +kernel
theorem dX11_answer_76 : decode cX11_answer 76 = .ok (.invokestatic 92, 3) := by decide +kernel
theorem dX11_answer_79 : decode cX11_answer 79 = .ok (.aload_n 3, 1) := by decide +kernel
theorem dX11_answer_80 : decode cX11_answer 80 = .ok (.iconst 1, 1) := by decide +kernel
theorem dX11_answer_81 : decode cX11_answer 81 = .ok (.putfield 187, 3) := by decide +kernel
theorem dX11_answer_84 : decode cX11_answer 84 = .ok (.iload_n 2, 1) := by decide +kernel
theorem dX11_answer_85 : decode cX11_answer 85 = .ok (.ifCond .eq 24, 3) := by decide +kernel
theorem dX11_answer_88 : decode cX11_answer 88 = .ok (.aload_n 0, 1) := by decide +kernel
theorem dX11_answer_89 : decode cX11_answer 89 = .ok (.getfield 10, 3) := by decide +kernel
theorem dX11_answer_92 : decode cX11_answer 92 = .ok (.aload_n 0, 1) := by decide +kernel
theorem dX11_answer_93 : decode cX11_answer 93 = .ok (.getfield 10, 3) := by decide +kernel
theorem dX11_answer_96 : decode cX11_answer 96 = .ok (.aload_n 3, 1) := by decide +kernel
theorem dX11_answer_97 : decode cX11_answer 97 = .ok (.getfield 115, 3) := by decide +kernel
theorem dX11_answer_100 : decode cX11_answer 100 = .ok (.invokevirtual 190, 3) := by decide +kernel
theorem dX11_answer_103 : decode cX11_answer 103 = .ok (.invokevirtual 136, 3) := by decide +kernel
theorem dX11_answer_106 : decode cX11_answer 106 = .ok (.goto 4, 3) := by decide +kernel
theorem dX11_answer_109 : decode cX11_answer 109 = .ok (.iconst (-1), 1) := by decide +kernel
theorem dX11_answer_110 : decode cX11_answer 110 = .ok (.istore 4, 2) := by decide +kernel
theorem dX11_answer_112 : decode cX11_answer 112 = .ok (.aload_n 0, 1) := by decide +kernel
theorem dX11_answer_113 : decode cX11_answer 113 = .ok (.getfield 10, 3) := by decide +kernel
theorem dX11_answer_116 : decode cX11_answer 116 = .ok (.invokevirtual 35, 3) := by decide +kernel
theorem dX11_answer_119 : decode cX11_answer 119 = .ok (.pop, 1) := by decide +kernel
theorem dX11_answer_120 : decode cX11_answer 120 = .ok (.iload 4, 2) := by decide +kernel
theorem dX11_answer_122 : decode cX11_answer 122 = .ok (.ireturn, 1) := by decide +kernel
theorem dX11_endDay_0 : decode cX11_endDay 0 = .ok (.aload_n 0, 1) := by decide +kernel
theorem dX11_endDay_1 : decode cX11_endDay 1 = .ok (.getfield 10, 3) := by decide +kernel
theorem dX11_endDay_4 : decode cX11_endDay 4 = .ok (.getfield 71, 3) := by decide +kernel
theorem dX11_endDay_7 : decode cX11_endDay 7 = .ok (.getfield 178, 3) := by decide +kernel
theorem dX11_endDay_10 : decode cX11_endDay 10 = .ok (.sipush 998, 3) := by decide +kernel
theorem dX11_endDay_13 : decode cX11_endDay 13 = .ok (.if_icmp .ge 7, 3) := by decide +kernel
theorem dX11_endDay_16 : decode cX11_endDay 16 = .ok (.iconst 1, 1) := by decide +kernel
theorem dX11_endDay_17 : decode cX11_endDay 17 = .ok (.goto 4, 3) := by decide +kernel
theorem dX11_endDay_20 : decode cX11_endDay 20 = .ok (.iconst 0, 1) := by decide +kernel
theorem dX11_endDay_21 : decode cX11_endDay 21 = .ok (.invokestatic 92, 3) := by decide +kernel
theorem dX11_endDay_24 : decode cX11_endDay 24 = .ok (.aload_n 0, 1) := by decide +kernel
theorem dX11_endDay_25 : decode cX11_endDay 25 = .ok (.getfield 10, 3) := by decide +kernel
theorem dX11_endDay_28 : decode cX11_endDay 28 = .ok (.invokevirtual 194, 3) := by decide +kernel
theorem dX11_endDay_31 : decode cX11_endDay 31 = .ok (.istore_n 1, 1) := by decide +kernel
theorem dX11_endDay_32 : decode cX11_endDay 32 = .ok (.iload_n 1, 1) := by decide +kernel
theorem dX11_endDay_33 : decode cX11_endDay 33 = .ok (.aload_n 0, 1) := by decide +kernel
theorem dX11_endDay_34 : decode cX11_endDay 34 = .ok (.getfield 10, 3) := by decide +kernel
theorem dX11_endDay_37 : decode cX11_endDay 37 = .ok (.invokevirtual 35, 3) := by decide +kernel
theorem dX11_endDay_40 : decode cX11_endDay 40 = .ok (.iadd, 1) := by decide +kernel
theorem dX11_endDay_41 : decode cX11_endDay 41 = .ok (.ireturn, 1) := by decide +kernel
theorem dX11_today_0 : decode cX11_today 0 = .ok (.aload_n 0, 1) := by decide +kernel
theorem dX11_today_1 : decode cX11_today 1 = .ok (.getfield 10, 3) := by decide +kernel
theorem dX11_today_4 : decode cX11_today 4 = .ok (.getfield 71, 3) := by decide +kernel
theorem dX11_today_7 : decode cX11_today 7 = .ok (.getfield 178, 3) := by decide +kernel
theorem dX11_today_10 : decode cX11_today 10 = .ok (.ireturn, 1) := by decide +kernel
theorem dX11_account_0 : decode cX11_account 0 = .ok (.iload_n 1, 1) := by decide +kernel
theorem dX11_account_1 : decode cX11_account 1 = .ok (.bipush 7, 2) := by decide +kernel
theorem dX11_account_3 : decode cX11_account 3 = .ok (.invokestatic 16, 3) := by decide +kernel
theorem dX11_account_6 : decode cX11_account 6 = .ok (.iload_n 2, 1) := by decide +kernel
theorem dX11_account_7 : decode cX11_account 7 = .ok (.iconst 3, 1) := by decide +kernel
theorem dX11_account_8 : decode cX11_account 8 = .ok (.invokestatic 16, 3) := by decide +kernel
theorem dX11_account_11 : decode cX11_account 11 = .ok (.aload_n 0, 1) := by decide +kernel
theorem dX11_account_12 : decode cX11_account 12 = .ok (.getfield 10, 3) := by decide +kernel
theorem dX11_account_15 : decode cX11_account 15 = .ok (.getfield 25, 3) := by decide +kernel
theorem dX11_account_18 : decode cX11_account 18 = .ok (.iload_n 1, 1) := by decide +kernel
theorem dX11_account_19 : decode cX11_account 19 = .ok (.iload_n 2, 1) := by decide +kernel
theorem dX11_account_20 : decode cX11_account 20 = .ok (.invokevirtual 39, 3) := by decide +kernel
theorem dX11_account_23 : decode cX11_account 23 = .ok (.lreturn, 1) := by decide +kernel
theorem dX11_accountAnew_0 : decode cX11_accountAnew 0 = .ok (.iload_n 1, 1) := by decide +kernel
theorem dX11_accountAnew_1 : decode cX11_accountAnew 1 = .ok (.bipush 7, 2) := by decide +kernel
theorem dX11_accountAnew_3 : decode cX11_accountAnew 3 = .ok (.invokestatic 16, 3) := by decide +kernel
theorem dX11_accountAnew_6 : decode cX11_accountAnew 6 = .ok (.iload_n 2, 1) := by decide +kernel
theorem dX11_accountAnew_7 : decode cX11_accountAnew 7 = .ok (.iconst 3, 1) := by decide +kernel
theorem dX11_accountAnew_8 : decode cX11_accountAnew 8 = .ok (.invokestatic 16, 3) := by decide +kernel
theorem dX11_accountAnew_11 : decode cX11_accountAnew 11 = .ok (.aload_n 0, 1) := by decide +kernel
theorem dX11_accountAnew_12 : decode cX11_accountAnew 12 = .ok (.getfield 10, 3) := by decide +kernel
theorem dX11_accountAnew_15 : decode cX11_accountAnew 15 = .ok (.getfield 25, 3) := by decide +kernel
theorem dX11_accountAnew_18 : decode cX11_accountAnew 18 = .ok (.getfield 197, 3) := by decide +kernel
theorem dX11_accountAnew_21 : decode cX11_accountAnew 21 = .ok (.iload_n 1, 1) := by decide +kernel
theorem dX11_accountAnew_22 : decode cX11_accountAnew 22 = .ok (.iload_n 2, 1) := by decide +kernel
theorem dX11_accountAnew_23 : decode cX11_accountAnew 23 = .ok (.invokevirtual 201, 3) := by decide +kernel
theorem dX11_accountAnew_26 : decode cX11_accountAnew 26 = .ok (.lreturn, 1) := by decide +kernel
theorem dX11_paid_0 : decode cX11_paid 0 = .ok (.iload_n 1, 1) := by decide +kernel
theorem dX11_paid_1 : decode cX11_paid 1 = .ok (.bipush 6, 2) := by decide +kernel
theorem dX11_paid_3 : decode cX11_paid 3 = .ok (.invokestatic 16, 3) := by decide +kernel
theorem dX11_paid_6 : decode cX11_paid 6 = .ok (.iload_n 2, 1) := by decide +kernel
theorem dX11_paid_7 : decode cX11_paid 7 = .ok (.bipush 6, 2) := by decide +kernel
theorem dX11_paid_9 : decode cX11_paid 9 = .ok (.invokestatic 16, 3) := by decide +kernel
theorem dX11_paid_12 : decode cX11_paid 12 = .ok (.iload_n 3, 1) := by decide +kernel
theorem dX11_paid_13 : decode cX11_paid 13 = .ok (.iconst 3, 1) := by decide +kernel
theorem dX11_paid_14 : decode cX11_paid 14 = .ok (.invokestatic 16, 3) := by decide +kernel
theorem dX11_paid_17 : decode cX11_paid 17 = .ok (.aload_n 0, 1) := by decide +kernel
theorem dX11_paid_18 : decode cX11_paid 18 = .ok (.getfield 10, 3) := by decide +kernel
theorem dX11_paid_21 : decode cX11_paid 21 = .ok (.getfield 25, 3) := by decide +kernel
theorem dX11_paid_24 : decode cX11_paid 24 = .ok (.iload_n 1, 1) := by decide +kernel
theorem dX11_paid_25 : decode cX11_paid 25 = .ok (.iload_n 2, 1) := by decide +kernel
theorem dX11_paid_26 : decode cX11_paid 26 = .ok (.iload_n 3, 1) := by decide +kernel
theorem dX11_paid_27 : decode cX11_paid 27 = .ok (.invokestatic 50, 3) := by decide +kernel
theorem dX11_paid_30 : decode cX11_paid 30 = .ok (.invokevirtual 206, 3) := by decide +kernel
theorem dX11_paid_33 : decode cX11_paid 33 = .ok (.lreturn, 1) := by decide +kernel
theorem dX11_payments_0 : decode cX11_payments 0 = .ok (.aload_n 0, 1) := by decide +kernel
theorem dX11_payments_1 : decode cX11_payments 1 = .ok (.getfield 10, 3) := by decide +kernel
theorem dX11_payments_4 : decode cX11_payments 4 = .ok (.getfield 105, 3) := by decide +kernel
theorem dX11_payments_7 : decode cX11_payments 7 = .ok (.invokevirtual 210, 3) := by decide +kernel
theorem dX11_payments_10 : decode cX11_payments 10 = .ok (.ireturn, 1) := by decide +kernel
theorem dX11_stateOf_0 : decode cX11_stateOf 0 = .ok (.aload_n 0, 1) := by decide +kernel
theorem dX11_stateOf_1 : decode cX11_stateOf 1 = .ok (.iload_n 1, 1) := by decide +kernel
theorem dX11_stateOf_2 : decode cX11_stateOf 2 = .ok (.invokevirtual 143, 3) := by decide +kernel
theorem dX11_stateOf_5 : decode cX11_stateOf 5 = .ok (.getfield 161, 3) := by decide +kernel
theorem dX11_stateOf_8 : decode cX11_stateOf 8 = .ok (.ireturn, 1) := by decide +kernel
theorem dX11_queueAt_0 : decode cX11_queueAt 0 = .ok (.iload_n 1, 1) := by decide +kernel
theorem dX11_queueAt_1 : decode cX11_queueAt 1 = .ok (.bipush 6, 2) := by decide +kernel
theorem dX11_queueAt_3 : decode cX11_queueAt 3 = .ok (.invokestatic 16, 3) := by decide +kernel
theorem dX11_queueAt_6 : decode cX11_queueAt 6 = .ok (.iload_n 2, 1) := by decide +kernel
theorem dX11_queueAt_7 : decode cX11_queueAt 7 = .ok (.iconst 3, 1) := by decide +kernel
theorem dX11_queueAt_8 : decode cX11_queueAt 8 = .ok (.invokestatic 16, 3) := by decide +kernel
theorem dX11_queueAt_11 : decode cX11_queueAt 11 = .ok (.iload_n 3, 1) := by decide +kernel
theorem dX11_queueAt_12 : decode cX11_queueAt 12 = .ok (.ifCond .ge 13, 3) := by decide +kernel
theorem dX11_queueAt_15 : decode cX11_queueAt 15 = .ok (.new 213, 3) := by decide +kernel
theorem dX11_queueAt_18 : decode cX11_queueAt 18 = .ok (.dup, 1) := by decide +kernel
theorem dX11_queueAt_19 : decode cX11_queueAt 19 = .ok (.ldc 215, 2) := by decide +kernel
theorem dX11_queueAt_21 : decode cX11_queueAt 21 = .ok (.invokespecial 217, 3) := by decide +kernel
theorem dX11_queueAt_24 : decode cX11_queueAt 24 = .ok (.athrow, 1) := by decide +kernel
theorem dX11_queueAt_25 : decode cX11_queueAt 25 = .ok (.aload_n 0, 1) := by decide +kernel
theorem dX11_queueAt_26 : decode cX11_queueAt 26 = .ok (.getfield 10, 3) := by decide +kernel
theorem dX11_queueAt_29 : decode cX11_queueAt 29 = .ok (.getfield 105, 3) := by decide +kernel
theorem dX11_queueAt_32 : decode cX11_queueAt 32 = .ok (.iload_n 1, 1) := by decide +kernel
theorem dX11_queueAt_33 : decode cX11_queueAt 33 = .ok (.iload_n 2, 1) := by decide +kernel
theorem dX11_queueAt_34 : decode cX11_queueAt 34 = .ok (.iload_n 3, 1) := by decide +kernel
theorem dX11_queueAt_35 : decode cX11_queueAt 35 = .ok (.invokevirtual 220, 3) := by decide +kernel
theorem dX11_queueAt_38 : decode cX11_queueAt 38 = .ok (.ireturn, 1) := by decide +kernel
theorem dX11_entries_0 : decode cX11_entries 0 = .ok (.aload_n 0, 1) := by decide +kernel
theorem dX11_entries_1 : decode cX11_entries 1 = .ok (.getfield 10, 3) := by decide +kernel
theorem dX11_entries_4 : decode cX11_entries 4 = .ok (.getfield 25, 3) := by decide +kernel
theorem dX11_entries_7 : decode cX11_entries 7 = .ok (.getfield 197, 3) := by decide +kernel
theorem dX11_entries_10 : decode cX11_entries 10 = .ok (.invokevirtual 223, 3) := by decide +kernel
theorem dX11_entries_13 : decode cX11_entries 13 = .ok (.ireturn, 1) := by decide +kernel
theorem dX11_entryAt_0 : decode cX11_entryAt 0 = .ok (.aload_n 0, 1) := by decide +kernel
theorem dX11_entryAt_1 : decode cX11_entryAt 1 = .ok (.getfield 10, 3) := by decide +kernel
theorem dX11_entryAt_4 : decode cX11_entryAt 4 = .ok (.getfield 25, 3) := by decide +kernel
theorem dX11_entryAt_7 : decode cX11_entryAt 7 = .ok (.getfield 197, 3) := by decide +kernel
theorem dX11_entryAt_10 : decode cX11_entryAt 10 = .ok (.iload_n 1, 1) := by decide +kernel
theorem dX11_entryAt_11 : decode cX11_entryAt 11 = .ok (.invokevirtual 224, 3) := by decide +kernel
theorem dX11_entryAt_14 : decode cX11_entryAt 14 = .ok (.astore_n 3, 1) := by decide +kernel
theorem dX11_entryAt_15 : decode cX11_entryAt 15 = .ok (.aload_n 3, 1) := by decide +kernel
theorem dX11_entryAt_16 : decode cX11_entryAt 16 = .ok (.ifnonnull 13, 3) := by decide +kernel
theorem dX11_entryAt_19 : decode cX11_entryAt 19 = .ok (.new 213, 3) := by decide +kernel
theorem dX11_entryAt_22 : decode cX11_entryAt 22 = .ok (.dup, 1) := by decide +kernel
theorem dX11_entryAt_23 : decode cX11_entryAt 23 = .ok (.ldc 228, 2) := by decide +kernel
theorem dX11_entryAt_25 : decode cX11_entryAt 25 = .ok (.invokespecial 217, 3) := by decide +kernel
theorem dX11_entryAt_28 : decode cX11_entryAt 28 = .ok (.athrow, 1) := by decide +kernel
theorem dX11_entryAt_29 : decode cX11_entryAt 29 = .ok (.iload_n 2, 1) := by decide +kernel
theorem dX11_entryAt_30 : decode cX11_entryAt 30 = .ok (.iconst 0, 1) := by decide +kernel
theorem dX11_entryAt_31 : decode cX11_entryAt 31 = .ok (.iconst 4, 1) := by decide +kernel
theorem dX11_entryAt_32 : decode cX11_entryAt 32 = .ok (.invokestatic 21, 3) := by decide +kernel
theorem dX11_entryAt_35 : decode cX11_entryAt 35 = .ok (.aload_n 3, 1) := by decide +kernel
theorem dX11_entryAt_36 : decode cX11_entryAt 36 = .ok (.iload_n 2, 1) := by decide +kernel
theorem dX11_entryAt_37 : decode cX11_entryAt 37 = .ok (.invokevirtual 232, 3) := by decide +kernel
theorem dX11_entryAt_40 : decode cX11_entryAt 40 = .ok (.lreturn, 1) := by decide +kernel
theorem dX11_advice_0 : decode cX11_advice 0 = .ok (.iload_n 1, 1) := by decide +kernel
theorem dX11_advice_1 : decode cX11_advice 1 = .ok (.bipush 6, 2) := by decide +kernel
theorem dX11_advice_3 : decode cX11_advice 3 = .ok (.invokestatic 16, 3) := by decide +kernel
theorem dX11_advice_6 : decode cX11_advice 6 = .ok (.aload_n 0, 1) := by decide +kernel
theorem dX11_advice_7 : decode cX11_advice 7 = .ok (.getfield 10, 3) := by decide +kernel
theorem dX11_advice_10 : decode cX11_advice 10 = .ok (.getfield 57, 3) := by decide +kernel
theorem dX11_advice_13 : decode cX11_advice 13 = .ok (.iload_n 1, 1) := by decide +kernel
theorem dX11_advice_14 : decode cX11_advice 14 = .ok (.invokevirtual 61, 3) := by decide +kernel
theorem dX11_advice_17 : decode cX11_advice 17 = .ok (.ifCond .eq 7, 3) := by decide +kernel
theorem dX11_advice_20 : decode cX11_advice 20 = .ok (.iconst (-1), 1) := by decide +kernel
theorem dX11_advice_21 : decode cX11_advice 21 = .ok (.goto 14, 3) := by decide +kernel
theorem dX11_advice_24 : decode cX11_advice 24 = .ok (.aload_n 0, 1) := by decide +kernel
theorem dX11_advice_25 : decode cX11_advice 25 = .ok (.getfield 10, 3) := by decide +kernel
theorem dX11_advice_28 : decode cX11_advice 28 = .ok (.getfield 235, 3) := by decide +kernel
theorem dX11_advice_31 : decode cX11_advice 31 = .ok (.iload_n 1, 1) := by decide +kernel
theorem dX11_advice_32 : decode cX11_advice 32 = .ok (.invokevirtual 239, 3) := by decide +kernel
theorem dX11_advice_35 : decode cX11_advice 35 = .ok (.ireturn, 1) := by decide +kernel
theorem dX11_again_0 : decode cX11_again 0 = .ok (.iload_n 1, 1) := by decide +kernel
theorem dX11_again_1 : decode cX11_again 1 = .ok (.bipush 6, 2) := by decide +kernel
theorem dX11_again_3 : decode cX11_again 3 = .ok (.invokestatic 16, 3) := by decide +kernel
theorem dX11_again_6 : decode cX11_again 6 = .ok (.iload_n 2, 1) := by decide +kernel
theorem dX11_again_7 : decode cX11_again 7 = .ok (.iconst 0, 1) := by decide +kernel
theorem dX11_again_8 : decode cX11_again 8 = .ok (.aload_n 0, 1) := by decide +kernel
theorem dX11_again_9 : decode cX11_again 9 = .ok (.getfield 10, 3) := by decide +kernel
theorem dX11_again_12 : decode cX11_again 12 = .ok (.getfield 235, 3) := by decide +kernel
theorem dX11_again_15 : decode cX11_again 15 = .ok (.iload_n 1, 1) := by decide +kernel
theorem dX11_again_16 : decode cX11_again 16 = .ok (.invokevirtual 244, 3) := by decide +kernel
theorem dX11_again_19 : decode cX11_again 19 = .ok (.invokestatic 21, 3) := by decide +kernel
theorem dX11_again_22 : decode cX11_again 22 = .ok (.aload_n 0, 1) := by decide +kernel
theorem dX11_again_23 : decode cX11_again 23 = .ok (.getfield 10, 3) := by decide +kernel
theorem dX11_again_26 : decode cX11_again 26 = .ok (.getfield 235, 3) := by decide +kernel
theorem dX11_again_29 : decode cX11_again 29 = .ok (.iload_n 1, 1) := by decide +kernel
theorem dX11_again_30 : decode cX11_again 30 = .ok (.iload_n 2, 1) := by decide +kernel
theorem dX11_again_31 : decode cX11_again 31 = .ok (.invokevirtual 247, 3) := by decide +kernel
theorem dX11_again_34 : decode cX11_again 34 = .ok (.ireturn, 1) := by decide +kernel
theorem dX11_needPlace_0 : decode cX11_needPlace 0 = .ok (.iload_n 0, 1) := by decide +kernel
theorem dX11_needPlace_1 : decode cX11_needPlace 1 = .ok (.ifCond .lt 8, 3) := by decide +kernel
theorem dX11_needPlace_4 : decode cX11_needPlace 4 = .ok (.iload_n 0, 1) := by decide +kernel
theorem dX11_needPlace_5 : decode cX11_needPlace 5 = .ok (.iload_n 1, 1) := by decide +kernel
theorem dX11_needPlace_6 : decode cX11_needPlace 6 = .ok (.if_icmp .lt 13, 3) := by decide +kernel
theorem dX11_needPlace_9 : decode cX11_needPlace 9 = .ok (.new 213, 3) := by decide +kernel
theorem dX11_needPlace_12 : decode cX11_needPlace 12 = .ok (.dup, 1) := by decide +kernel
theorem dX11_needPlace_13 : decode cX11_needPlace 13 = .ok (.ldc 250, 2) := by decide +kernel
theorem dX11_needPlace_15 : decode cX11_needPlace 15 = .ok (.invokespecial 217, 3) := by decide +kernel
theorem dX11_needPlace_18 : decode cX11_needPlace 18 = .ok (.athrow, 1) := by decide +kernel
theorem dX11_needPlace_19 : decode cX11_needPlace 19 = .ok (.return_, 1) := by decide +kernel
theorem dX11_needRange_0 : decode cX11_needRange 0 = .ok (.iload_n 0, 1) := by decide +kernel
theorem dX11_needRange_1 : decode cX11_needRange 1 = .ok (.iload_n 1, 1) := by decide +kernel
theorem dX11_needRange_2 : decode cX11_needRange 2 = .ok (.if_icmp .lt 8, 3) := by decide +kernel
theorem dX11_needRange_5 : decode cX11_needRange 5 = .ok (.iload_n 0, 1) := by decide +kernel
theorem dX11_needRange_6 : decode cX11_needRange 6 = .ok (.iload_n 2, 1) := by decide +kernel
theorem dX11_needRange_7 : decode cX11_needRange 7 = .ok (.if_icmp .le 13, 3) := by decide +kernel
theorem dX11_needRange_10 : decode cX11_needRange 10 = .ok (.new 252, 3) := by decide +kernel
theorem dX11_needRange_13 : decode cX11_needRange 13 = .ok (.dup, 1) := by decide +kernel
theorem dX11_needRange_14 : decode cX11_needRange 14 = .ok (.ldc 254, 2) := by decide +kernel
theorem dX11_needRange_16 : decode cX11_needRange 16 = .ok (.invokespecial 256, 3) := by decide +kernel
theorem dX11_needRange_19 : decode cX11_needRange 19 = .ok (.athrow, 1) := by decide +kernel
theorem dX11_needRange_20 : decode cX11_needRange 20 = .ok (.return_, 1) := by decide +kernel
theorem dX11_needTwoBanks_0 : decode cX11_needTwoBanks 0 = .ok (.iload_n 0, 1) := by decide +kernel
theorem dX11_needTwoBanks_1 : decode cX11_needTwoBanks 1 = .ok (.iload_n 1, 1) := by decide +kernel
theorem dX11_needTwoBanks_2 : decode cX11_needTwoBanks 2 = .ok (.if_icmp .ne 14, 3) := by decide +kernel
theorem dX11_needTwoBanks_5 : decode cX11_needTwoBanks 5 = .ok (.new 252, 3) := by decide +kernel
theorem dX11_needTwoBanks_8 : decode cX11_needTwoBanks 8 = .ok (.dup, 1) := by decide +kernel
theorem dX11_needTwoBanks_9 : decode cX11_needTwoBanks 9 = .ok (.ldc_w 257, 3) := by decide +kernel
theorem dX11_needTwoBanks_12 : decode cX11_needTwoBanks 12 = .ok (.invokespecial 256, 3) := by decide +kernel
theorem dX11_needTwoBanks_15 : decode cX11_needTwoBanks 15 = .ok (.athrow, 1) := by decide +kernel
theorem dX11_needTwoBanks_16 : decode cX11_needTwoBanks 16 = .ok (.return_, 1) := by decide +kernel
theorem dX11_needState_0 : decode cX11_needState 0 = .ok (.iload_n 0, 1) := by decide +kernel
theorem dX11_needState_1 : decode cX11_needState 1 = .ok (.ifCond .ne 14, 3) := by decide +kernel
theorem dX11_needState_4 : decode cX11_needState 4 = .ok (.new 259, 3) := by decide +kernel
theorem dX11_needState_7 : decode cX11_needState 7 = .ok (.dup, 1) := by decide +kernel
theorem dX11_needState_8 : decode cX11_needState 8 = .ok (.ldc_w 261, 3) := by decide +kernel
theorem dX11_needState_11 : decode cX11_needState 11 = .ok (.invokespecial 263, 3) := by decide +kernel
theorem dX11_needState_14 : decode cX11_needState 14 = .ok (.athrow, 1) := by decide +kernel
theorem dX11_needState_15 : decode cX11_needState 15 = .ok (.return_, 1) := by decide +kernel
theorem dX11_needPayment_0 : decode cX11_needPayment 0 = .ok (.aload_n 0, 1) := by decide +kernel
theorem dX11_needPayment_1 : decode cX11_needPayment 1 = .ok (.getfield 10, 3) := by decide +kernel
theorem dX11_needPayment_4 : decode cX11_needPayment 4 = .ok (.getfield 105, 3) := by decide +kernel
theorem dX11_needPayment_7 : decode cX11_needPayment 7 = .ok (.iload_n 1, 1) := by decide +kernel
theorem dX11_needPayment_8 : decode cX11_needPayment 8 = .ok (.invokevirtual 264, 3) := by decide +kernel
theorem dX11_needPayment_11 : decode cX11_needPayment 11 = .ok (.astore_n 2, 1) := by decide +kernel
theorem dX11_needPayment_12 : decode cX11_needPayment 12 = .ok (.aload_n 2, 1) := by decide +kernel
theorem dX11_needPayment_13 : decode cX11_needPayment 13 = .ok (.ifnonnull 14, 3) := by decide +kernel
theorem dX11_needPayment_16 : decode cX11_needPayment 16 = .ok (.new 213, 3) := by decide +kernel
theorem dX11_needPayment_19 : decode cX11_needPayment 19 = .ok (.dup, 1) := by decide +kernel
theorem dX11_needPayment_20 : decode cX11_needPayment 20 = .ok (.ldc_w 266, 3) := by decide +kernel
theorem dX11_needPayment_23 : decode cX11_needPayment 23 = .ok (.invokespecial 217, 3) := by decide +kernel
theorem dX11_needPayment_26 : decode cX11_needPayment 26 = .ok (.athrow, 1) := by decide +kernel
theorem dX11_needPayment_27 : decode cX11_needPayment 27 = .ok (.aload_n 2, 1) := by decide +kernel
theorem dX11_needPayment_28 : decode cX11_needPayment 28 = .ok (.areturn, 1) := by decide +kernel
theorem dX11_accountSlot_0 : decode cX11_accountSlot 0 = .ok (.iload_n 0, 1) := by decide +kernel
theorem dX11_accountSlot_1 : decode cX11_accountSlot 1 = .ok (.iconst 3, 1) := by decide +kernel
theorem dX11_accountSlot_2 : decode cX11_accountSlot 2 = .ok (.imul, 1) := by decide +kernel
theorem dX11_accountSlot_3 : decode cX11_accountSlot 3 = .ok (.iload_n 1, 1) := by decide +kernel
theorem dX11_accountSlot_4 : decode cX11_accountSlot 4 = .ok (.iadd, 1) := by decide +kernel
theorem dX11_accountSlot_5 : decode cX11_accountSlot 5 = .ok (.ireturn, 1) := by decide +kernel
theorem dX11_pairSlot_0 : decode cX11_pairSlot 0 = .ok (.iload_n 0, 1) := by decide +kernel
theorem dX11_pairSlot_1 : decode cX11_pairSlot 1 = .ok (.bipush 6, 2) := by decide +kernel
theorem dX11_pairSlot_3 : decode cX11_pairSlot 3 = .ok (.imul, 1) := by decide +kernel
theorem dX11_pairSlot_4 : decode cX11_pairSlot 4 = .ok (.iload_n 1, 1) := by decide +kernel
theorem dX11_pairSlot_5 : decode cX11_pairSlot 5 = .ok (.iadd, 1) := by decide +kernel
theorem dX11_pairSlot_6 : decode cX11_pairSlot 6 = .ok (.iconst 3, 1) := by decide +kernel
theorem dX11_pairSlot_7 : decode cX11_pairSlot 7 = .ok (.imul, 1) := by decide +kernel
theorem dX11_pairSlot_8 : decode cX11_pairSlot 8 = .ok (.iload_n 2, 1) := by decide +kernel
theorem dX11_pairSlot_9 : decode cX11_pairSlot 9 = .ok (.iadd, 1) := by decide +kernel
theorem dX11_pairSlot_10 : decode cX11_pairSlot 10 = .ok (.ireturn, 1) := by decide +kernel
theorem dJ9_max_7cf53_0 : decode cJ9_max_7cf53 0 = .ok (.iload_n 0, 1) := by decide +kernel
theorem dJ9_max_7cf53_1 : decode cJ9_max_7cf53 1 = .ok (.iload_n 1, 1) := by decide +kernel
theorem dJ9_max_7cf53_2 : decode cJ9_max_7cf53 2 = .ok (.if_icmp .lt 7, 3) := by decide +kernel
theorem dJ9_max_7cf53_5 : decode cJ9_max_7cf53 5 = .ok (.iload_n 0, 1) := by decide +kernel
theorem dJ9_max_7cf53_6 : decode cJ9_max_7cf53 6 = .ok (.goto 4, 3) := by decide +kernel
theorem dJ9_max_7cf53_9 : decode cJ9_max_7cf53 9 = .ok (.iload_n 1, 1) := by decide +kernel
theorem dJ9_max_7cf53_10 : decode cJ9_max_7cf53 10 = .ok (.ireturn, 1) := by decide +kernel
theorem dJ9_max_f86c9_0 : decode cJ9_max_f86c9 0 = .ok (.lload_n 0, 1) := by decide +kernel
theorem dJ9_max_f86c9_1 : decode cJ9_max_f86c9 1 = .ok (.lload_n 2, 1) := by decide +kernel
theorem dJ9_max_f86c9_2 : decode cJ9_max_f86c9 2 = .ok (.lcmp, 1) := by decide +kernel
theorem dJ9_max_f86c9_3 : decode cJ9_max_f86c9 3 = .ok (.ifCond .lt 7, 3) := by decide +kernel
theorem dJ9_max_f86c9_6 : decode cJ9_max_f86c9 6 = .ok (.lload_n 0, 1) := by decide +kernel
theorem dJ9_max_f86c9_7 : decode cJ9_max_f86c9 7 = .ok (.goto 4, 3) := by decide +kernel
theorem dJ9_max_f86c9_10 : decode cJ9_max_f86c9 10 = .ok (.lload_n 2, 1) := by decide +kernel
theorem dJ9_max_f86c9_11 : decode cJ9_max_f86c9 11 = .ok (.lreturn, 1) := by decide +kernel
theorem dJ9_min_7cf53_0 : decode cJ9_min_7cf53 0 = .ok (.iload_n 0, 1) := by decide +kernel
theorem dJ9_min_7cf53_1 : decode cJ9_min_7cf53 1 = .ok (.iload_n 1, 1) := by decide +kernel
theorem dJ9_min_7cf53_2 : decode cJ9_min_7cf53 2 = .ok (.if_icmp .gt 7, 3) := by decide +kernel
theorem dJ9_min_7cf53_5 : decode cJ9_min_7cf53 5 = .ok (.iload_n 0, 1) := by decide +kernel
theorem dJ9_min_7cf53_6 : decode cJ9_min_7cf53 6 = .ok (.goto 4, 3) := by decide +kernel
theorem dJ9_min_7cf53_9 : decode cJ9_min_7cf53 9 = .ok (.iload_n 1, 1) := by decide +kernel
theorem dJ9_min_7cf53_10 : decode cJ9_min_7cf53 10 = .ok (.ireturn, 1) := by decide +kernel
theorem dJxa1e45_init_da8c8_0 : decode cJxa1e45_init_da8c8 0 = .ok (.aload_n 0, 1) := by decide +kernel
theorem dJxa1e45_init_da8c8_1 : decode cJxa1e45_init_da8c8 1 = .ok (.invokespecial 1, 3) := by decide +kernel
theorem dJxa1e45_init_da8c8_4 : decode cJxa1e45_init_da8c8 4 = .ok (.return_, 1) := by decide +kernel
theorem dJxc12de_init_da8c8_0 : decode cJxc12de_init_da8c8 0 = .ok (.aload_n 0, 1) := by decide +kernel
theorem dJxc12de_init_da8c8_1 : decode cJxc12de_init_da8c8 1 = .ok (.invokespecial 1, 3) := by decide +kernel
theorem dJxc12de_init_da8c8_4 : decode cJxc12de_init_da8c8 4 = .ok (.aload_n 0, 1) := by decide +kernel
theorem dJxc12de_init_da8c8_5 : decode cJxc12de_init_da8c8 5 = .ok (.iconst 0, 1) := by decide +kernel
theorem dJxc12de_init_da8c8_6 : decode cJxc12de_init_da8c8 6 = .ok (.putfield 7, 3) := by decide +kernel
theorem dJxc12de_init_da8c8_9 : decode cJxc12de_init_da8c8 9 = .ok (.return_, 1) := by decide +kernel
theorem dJx4a65c_init_da8c8_0 : decode cJx4a65c_init_da8c8 0 = .ok (.aload_n 0, 1) := by decide +kernel
theorem dJx4a65c_init_da8c8_1 : decode cJx4a65c_init_da8c8 1 = .ok (.invokespecial 1, 3) := by decide +kernel
theorem dJx4a65c_init_da8c8_4 : decode cJx4a65c_init_da8c8 4 = .ok (.aload_n 0, 1) := by decide +kernel
theorem dJx4a65c_init_da8c8_5 : decode cJx4a65c_init_da8c8 5 = .ok (.getstatic 39, 3) := by decide +kernel
theorem dJx4a65c_init_da8c8_8 : decode cJx4a65c_init_da8c8 8 = .ok (.putfield 9, 3) := by decide +kernel
theorem dJx4a65c_init_da8c8_11 : decode cJx4a65c_init_da8c8 11 = .ok (.return_, 1) := by decide +kernel
theorem dJx4a65c_grow_92f84_0 : decode cJx4a65c_grow_92f84 0 = .ok (.aload_n 0, 1) := by decide +kernel
theorem dJx4a65c_grow_92f84_1 : decode cJx4a65c_grow_92f84 1 = .ok (.getfield 9, 3) := by decide +kernel
theorem dJx4a65c_grow_92f84_4 : decode cJx4a65c_grow_92f84 4 = .ok (.arraylength, 1) := by decide +kernel
theorem dJx4a65c_grow_92f84_5 : decode cJx4a65c_grow_92f84 5 = .ok (.istore_n 2, 1) := by decide +kernel
theorem dJx4a65c_grow_92f84_6 : decode cJx4a65c_grow_92f84 6 = .ok (.iload_n 2, 1) := by decide +kernel
theorem dJx4a65c_grow_92f84_7 : decode cJx4a65c_grow_92f84 7 = .ok (.ifCond .gt 13, 3) := by decide +kernel
theorem dJx4a65c_grow_92f84_10 : decode cJx4a65c_grow_92f84 10 = .ok (.aload_n 0, 1) := by decide +kernel
theorem dJx4a65c_grow_92f84_11 : decode cJx4a65c_grow_92f84 11 = .ok (.getfield 9, 3) := by decide +kernel
theorem dJx4a65c_grow_92f84_14 : decode cJx4a65c_grow_92f84 14 = .ok (.getstatic 39, 3) := by decide +kernel
theorem dJx4a65c_grow_92f84_17 : decode cJx4a65c_grow_92f84 17 = .ok (.if_acmp .eq 28, 3) := by decide +kernel
theorem dJx4a65c_grow_92f84_20 : decode cJx4a65c_grow_92f84 20 = .ok (.iload_n 2, 1) := by decide +kernel
theorem dJx4a65c_grow_92f84_21 : decode cJx4a65c_grow_92f84 21 = .ok (.iload_n 1, 1) := by decide +kernel
theorem dJx4a65c_grow_92f84_22 : decode cJx4a65c_grow_92f84 22 = .ok (.iload_n 2, 1) := by decide +kernel
theorem dJx4a65c_grow_92f84_23 : decode cJx4a65c_grow_92f84 23 = .ok (.isub, 1) := by decide +kernel
theorem dJx4a65c_grow_92f84_24 : decode cJx4a65c_grow_92f84 24 = .ok (.iload_n 2, 1) := by decide +kernel
theorem dJx4a65c_grow_92f84_25 : decode cJx4a65c_grow_92f84 25 = .ok (.iconst 1, 1) := by decide +kernel
theorem dJx4a65c_grow_92f84_26 : decode cJx4a65c_grow_92f84 26 = .ok (.ishr, 1) := by decide +kernel
theorem dJx4a65c_grow_92f84_27 : decode cJx4a65c_grow_92f84 27 = .ok (.invokestatic 73, 3) := by decide +kernel
theorem dJx4a65c_grow_92f84_30 : decode cJx4a65c_grow_92f84 30 = .ok (.istore_n 3, 1) := by decide +kernel
theorem dJx4a65c_grow_92f84_31 : decode cJx4a65c_grow_92f84 31 = .ok (.aload_n 0, 1) := by decide +kernel
theorem dJx4a65c_grow_92f84_32 : decode cJx4a65c_grow_92f84 32 = .ok (.aload_n 0, 1) := by decide +kernel
theorem dJx4a65c_grow_92f84_33 : decode cJx4a65c_grow_92f84 33 = .ok (.getfield 9, 3) := by decide +kernel
theorem dJx4a65c_grow_92f84_36 : decode cJx4a65c_grow_92f84 36 = .ok (.iload_n 3, 1) := by decide +kernel
theorem dJx4a65c_grow_92f84_37 : decode cJx4a65c_grow_92f84 37 = .ok (.invokestatic 66, 3) := by decide +kernel
theorem dJx4a65c_grow_92f84_40 : decode cJx4a65c_grow_92f84 40 = .ok (.dup_x1, 1) := by decide +kernel
theorem dJx4a65c_grow_92f84_41 : decode cJx4a65c_grow_92f84 41 = .ok (.putfield 9, 3) := by decide +kernel
theorem dJx4a65c_grow_92f84_44 : decode cJx4a65c_grow_92f84 44 = .ok (.areturn, 1) := by decide +kernel
theorem dJx4a65c_grow_92f84_45 : decode cJx4a65c_grow_92f84 45 = .ok (.aload_n 0, 1) := by decide +kernel
theorem dJx4a65c_grow_92f84_46 : decode cJx4a65c_grow_92f84 46 = .ok (.bipush 10, 2) := by decide +kernel
theorem dJx4a65c_grow_92f84_48 : decode cJx4a65c_grow_92f84 48 = .ok (.iload_n 1, 1) := by decide +kernel
theorem dJx4a65c_grow_92f84_49 : decode cJx4a65c_grow_92f84 49 = .ok (.invokestatic 79, 3) := by decide +kernel
theorem dJx4a65c_grow_92f84_52 : decode cJx4a65c_grow_92f84 52 = .ok (.anewarray 7, 3) := by decide +kernel
theorem dJx4a65c_grow_92f84_55 : decode cJx4a65c_grow_92f84 55 = .ok (.dup_x1, 1) := by decide +kernel
theorem dJx4a65c_grow_92f84_56 : decode cJx4a65c_grow_92f84 56 = .ok (.putfield 9, 3) := by decide +kernel
theorem dJx4a65c_grow_92f84_59 : decode cJx4a65c_grow_92f84 59 = .ok (.areturn, 1) := by decide +kernel
theorem dJx4a65c_grow_d5877_0 : decode cJx4a65c_grow_d5877 0 = .ok (.aload_n 0, 1) := by decide +kernel
theorem dJx4a65c_grow_d5877_1 : decode cJx4a65c_grow_d5877 1 = .ok (.aload_n 0, 1) := by decide +kernel
theorem dJx4a65c_grow_d5877_2 : decode cJx4a65c_grow_d5877 2 = .ok (.getfield 48, 3) := by decide +kernel
theorem dJx4a65c_grow_d5877_5 : decode cJx4a65c_grow_d5877 5 = .ok (.iconst 1, 1) := by decide +kernel
theorem dJx4a65c_grow_d5877_6 : decode cJx4a65c_grow_d5877 6 = .ok (.iadd, 1) := by decide +kernel
theorem dJx4a65c_grow_d5877_7 : decode cJx4a65c_grow_d5877 7 = .ok (.invokevirtual 69, 3) := by decide +kernel
theorem dJx4a65c_grow_d5877_10 : decode cJx4a65c_grow_d5877 10 = .ok (.areturn, 1) := by decide +kernel
theorem dJx4a65c_size_8abf5_0 : decode cJx4a65c_size_8abf5 0 = .ok (.aload_n 0, 1) := by decide +kernel
theorem dJx4a65c_size_8abf5_1 : decode cJx4a65c_size_8abf5 1 = .ok (.getfield 48, 3) := by decide +kernel
theorem dJx4a65c_size_8abf5_4 : decode cJx4a65c_size_8abf5 4 = .ok (.ireturn, 1) := by decide +kernel
theorem dJx4a65c_elementData_915e3_0 : decode cJx4a65c_elementData_915e3 0 = .ok (.aload_n 0, 1) := by decide +kernel
theorem dJx4a65c_elementData_915e3_1 : decode cJx4a65c_elementData_915e3 1 = .ok (.getfield 9, 3) := by decide +kernel
theorem dJx4a65c_elementData_915e3_4 : decode cJx4a65c_elementData_915e3 4 = .ok (.iload_n 1, 1) := by decide +kernel
theorem dJx4a65c_elementData_915e3_5 : decode cJx4a65c_elementData_915e3 5 = .ok (.aaload, 1) := by decide +kernel
theorem dJx4a65c_elementData_915e3_6 : decode cJx4a65c_elementData_915e3 6 = .ok (.areturn, 1) := by decide +kernel
theorem dJx4a65c_get_915e3_0 : decode cJx4a65c_get_915e3 0 = .ok (.iload_n 1, 1) := by decide +kernel
theorem dJx4a65c_get_915e3_1 : decode cJx4a65c_get_915e3 1 = .ok (.aload_n 0, 1) := by decide +kernel
theorem dJx4a65c_get_915e3_2 : decode cJx4a65c_get_915e3 2 = .ok (.getfield 48, 3) := by decide +kernel
theorem dJx4a65c_get_915e3_5 : decode cJx4a65c_get_915e3 5 = .ok (.invokestatic 118, 3) := by decide +kernel
theorem dJx4a65c_get_915e3_8 : decode cJx4a65c_get_915e3 8 = .ok (.pop, 1) := by decide +kernel
theorem dJx4a65c_get_915e3_9 : decode cJx4a65c_get_915e3 9 = .ok (.aload_n 0, 1) := by decide +kernel
theorem dJx4a65c_get_915e3_10 : decode cJx4a65c_get_915e3 10 = .ok (.iload_n 1, 1) := by decide +kernel
theorem dJx4a65c_get_915e3_11 : decode cJx4a65c_get_915e3 11 = .ok (.invokevirtual 123, 3) := by decide +kernel
theorem dJx4a65c_get_915e3_14 : decode cJx4a65c_get_915e3 14 = .ok (.areturn, 1) := by decide +kernel
theorem dJx4a65c_add_72be8_0 : decode cJx4a65c_add_72be8 0 = .ok (.iload_n 3, 1) := by decide +kernel
theorem dJx4a65c_add_72be8_1 : decode cJx4a65c_add_72be8 1 = .ok (.aload_n 2, 1) := by decide +kernel
theorem dJx4a65c_add_72be8_2 : decode cJx4a65c_add_72be8 2 = .ok (.arraylength, 1) := by decide +kernel
theorem dJx4a65c_add_72be8_3 : decode cJx4a65c_add_72be8 3 = .ok (.if_icmp .ne 8, 3) := by decide +kernel
theorem dJx4a65c_add_72be8_6 : decode cJx4a65c_add_72be8 6 = .ok (.aload_n 0, 1) := by decide +kernel
theorem dJx4a65c_add_72be8_7 : decode cJx4a65c_add_72be8 7 = .ok (.invokevirtual 129, 3) := by decide +kernel
theorem dJx4a65c_add_72be8_10 : decode cJx4a65c_add_72be8 10 = .ok (.astore_n 2, 1) := by decide +kernel
theorem dJx4a65c_add_72be8_11 : decode cJx4a65c_add_72be8 11 = .ok (.aload_n 2, 1) := by decide +kernel
theorem dJx4a65c_add_72be8_12 : decode cJx4a65c_add_72be8 12 = .ok (.iload_n 3, 1) := by decide +kernel
theorem dJx4a65c_add_72be8_13 : decode cJx4a65c_add_72be8 13 = .ok (.aload_n 1, 1) := by decide +kernel
theorem dJx4a65c_add_72be8_14 : decode cJx4a65c_add_72be8 14 = .ok (.aastore, 1) := by decide +kernel
theorem dJx4a65c_add_72be8_15 : decode cJx4a65c_add_72be8 15 = .ok (.aload_n 0, 1) := by decide +kernel
theorem dJx4a65c_add_72be8_16 : decode cJx4a65c_add_72be8 16 = .ok (.iload_n 3, 1) := by decide +kernel
theorem dJx4a65c_add_72be8_17 : decode cJx4a65c_add_72be8 17 = .ok (.iconst 1, 1) := by decide +kernel
theorem dJx4a65c_add_72be8_18 : decode cJx4a65c_add_72be8 18 = .ok (.iadd, 1) := by decide +kernel
theorem dJx4a65c_add_72be8_19 : decode cJx4a65c_add_72be8 19 = .ok (.putfield 48, 3) := by decide +kernel
theorem dJx4a65c_add_72be8_22 : decode cJx4a65c_add_72be8 22 = .ok (.return_, 1) := by decide +kernel
theorem dJx4a65c_add_9ea2d_0 : decode cJx4a65c_add_9ea2d 0 = .ok (.aload_n 0, 1) := by decide +kernel
theorem dJx4a65c_add_9ea2d_1 : decode cJx4a65c_add_9ea2d 1 = .ok (.dup, 1) := by decide +kernel
theorem dJx4a65c_add_9ea2d_2 : decode cJx4a65c_add_9ea2d 2 = .ok (.getfield 63, 3) := by decide +kernel
theorem dJx4a65c_add_9ea2d_5 : decode cJx4a65c_add_9ea2d 5 = .ok (.iconst 1, 1) := by decide +kernel
theorem dJx4a65c_add_9ea2d_6 : decode cJx4a65c_add_9ea2d 6 = .ok (.iadd, 1) := by decide +kernel
theorem dJx4a65c_add_9ea2d_7 : decode cJx4a65c_add_9ea2d 7 = .ok (.putfield 63, 3) := by decide +kernel
theorem dJx4a65c_add_9ea2d_10 : decode cJx4a65c_add_9ea2d 10 = .ok (.aload_n 0, 1) := by decide +kernel
theorem dJx4a65c_add_9ea2d_11 : decode cJx4a65c_add_9ea2d 11 = .ok (.aload_n 1, 1) := by decide +kernel
theorem dJx4a65c_add_9ea2d_12 : decode cJx4a65c_add_9ea2d 12 = .ok (.aload_n 0, 1) := by decide +kernel
theorem dJx4a65c_add_9ea2d_13 : decode cJx4a65c_add_9ea2d 13 = .ok (.getfield 9, 3) := by decide +kernel
theorem dJx4a65c_add_9ea2d_16 : decode cJx4a65c_add_9ea2d 16 = .ok (.aload_n 0, 1) := by decide +kernel
theorem dJx4a65c_add_9ea2d_17 : decode cJx4a65c_add_9ea2d 17 = .ok (.getfield 48, 3) := by decide +kernel
theorem dJx4a65c_add_9ea2d_20 : decode cJx4a65c_add_9ea2d 20 = .ok (.invokevirtual 131, 3) := by decide +kernel
theorem dJx4a65c_add_9ea2d_23 : decode cJx4a65c_add_9ea2d 23 = .ok (.iconst 1, 1) := by decide +kernel
theorem dJx4a65c_add_9ea2d_24 : decode cJx4a65c_add_9ea2d 24 = .ok (.ireturn, 1) := by decide +kernel
theorem dJ7_copyOf_1904c_0 : decode cJ7_copyOf_1904c 0 = .ok (.aload_n 0, 1) := by decide +kernel
theorem dJ7_copyOf_1904c_1 : decode cJ7_copyOf_1904c 1 = .ok (.iload_n 1, 1) := by decide +kernel
theorem dJ7_copyOf_1904c_2 : decode cJ7_copyOf_1904c 2 = .ok (.aload_n 0, 1) := by decide +kernel
theorem dJ7_copyOf_1904c_3 : decode cJ7_copyOf_1904c 3 = .ok (.invokevirtual 86, 3) := by decide +kernel
theorem dJ7_copyOf_1904c_6 : decode cJ7_copyOf_1904c 6 = .ok (.invokestatic 300, 3) := by decide +kernel
theorem dJ7_copyOf_1904c_9 : decode cJ7_copyOf_1904c 9 = .ok (.areturn, 1) := by decide +kernel
theorem dJ7_copyOf_6403c_0 : decode cJ7_copyOf_6403c 0 = .ok (.aload_n 2, 1) := by decide +kernel
theorem dJ7_copyOf_6403c_1 : decode cJ7_copyOf_6403c 1 = .ok (.ldc 110, 2) := by decide +kernel
theorem dJ7_copyOf_6403c_3 : decode cJ7_copyOf_6403c 3 = .ok (.if_acmp .ne 10, 3) := by decide +kernel
theorem dJ7_copyOf_6403c_6 : decode cJ7_copyOf_6403c 6 = .ok (.iload_n 1, 1) := by decide +kernel
theorem dJ7_copyOf_6403c_7 : decode cJ7_copyOf_6403c 7 = .ok (.anewarray 2, 3) := by decide +kernel
theorem dJ7_copyOf_6403c_10 : decode cJ7_copyOf_6403c 10 = .ok (.goto 14, 3) := by decide +kernel
theorem dJ7_copyOf_6403c_13 : decode cJ7_copyOf_6403c 13 = .ok (.aload_n 2, 1) := by decide +kernel
theorem dJ7_copyOf_6403c_14 : decode cJ7_copyOf_6403c 14 = .ok (.invokevirtual 90, 3) := by decide +kernel
theorem dJ7_copyOf_6403c_17 : decode cJ7_copyOf_6403c 17 = .ok (.iload_n 1, 1) := by decide +kernel
theorem dJ7_copyOf_6403c_18 : decode cJ7_copyOf_6403c 18 = .ok (.invokestatic 95, 3) := by decide +kernel
theorem dJ7_copyOf_6403c_21 : decode cJ7_copyOf_6403c 21 = .ok (.checkcast 110, 3) := by decide +kernel
theorem dJ7_copyOf_6403c_24 : decode cJ7_copyOf_6403c 24 = .ok (.astore_n 3, 1) := by decide +kernel
theorem dJ7_copyOf_6403c_25 : decode cJ7_copyOf_6403c 25 = .ok (.aload_n 0, 1) := by decide +kernel
theorem dJ7_copyOf_6403c_26 : decode cJ7_copyOf_6403c 26 = .ok (.iconst 0, 1) := by decide +kernel
theorem dJ7_copyOf_6403c_27 : decode cJ7_copyOf_6403c 27 = .ok (.aload_n 3, 1) := by decide +kernel
theorem dJ7_copyOf_6403c_28 : decode cJ7_copyOf_6403c 28 = .ok (.iconst 0, 1) := by decide +kernel
theorem dJ7_copyOf_6403c_29 : decode cJ7_copyOf_6403c 29 = .ok (.aload_n 0, 1) := by decide +kernel
theorem dJ7_copyOf_6403c_30 : decode cJ7_copyOf_6403c 30 = .ok (.arraylength, 1) := by decide +kernel
theorem dJ7_copyOf_6403c_31 : decode cJ7_copyOf_6403c 31 = .ok (.iload_n 1, 1) := by decide +kernel
theorem dJ7_copyOf_6403c_32 : decode cJ7_copyOf_6403c 32 = .ok (.invokestatic 304, 3) := by decide +kernel
theorem dJ7_copyOf_6403c_35 : decode cJ7_copyOf_6403c 35 = .ok (.invokestatic 150, 3) := by decide +kernel
theorem dJ7_copyOf_6403c_38 : decode cJ7_copyOf_6403c 38 = .ok (.aload_n 3, 1) := by decide +kernel
theorem dJ7_copyOf_6403c_39 : decode cJ7_copyOf_6403c 39 = .ok (.areturn, 1) := by decide +kernel
theorem dJ15_checkIndex_7cf53_0 : decode cJ15_checkIndex_7cf53 0 = .ok (.iload_n 0, 1) := by decide +kernel
theorem dJ15_checkIndex_7cf53_1 : decode cJ15_checkIndex_7cf53 1 = .ok (.iload_n 1, 1) := by decide +kernel
theorem dJ15_checkIndex_7cf53_2 : decode cJ15_checkIndex_7cf53 2 = .ok (.aconst_null, 1) := by decide +kernel
theorem dJ15_checkIndex_7cf53_3 : decode cJ15_checkIndex_7cf53 3 = .ok (.invokestatic 105, 3) := by decide +kernel
theorem dJ15_checkIndex_7cf53_6 : decode cJ15_checkIndex_7cf53 6 = .ok (.ireturn, 1) := by decide +kernel
theorem dJ8_newLength_cabcc_0 : decode cJ8_newLength_cabcc 0 = .ok (.iload_n 0, 1) := by decide +kernel
theorem dJ8_newLength_cabcc_1 : decode cJ8_newLength_cabcc 1 = .ok (.iload_n 1, 1) := by decide +kernel
theorem dJ8_newLength_cabcc_2 : decode cJ8_newLength_cabcc 2 = .ok (.iload_n 2, 1) := by decide +kernel
theorem dJ8_newLength_cabcc_3 : decode cJ8_newLength_cabcc 3 = .ok (.invokestatic 194, 3) := by decide +kernel
theorem dJ8_newLength_cabcc_6 : decode cJ8_newLength_cabcc 6 = .ok (.iadd, 1) := by decide +kernel
theorem dJ8_newLength_cabcc_7 : decode cJ8_newLength_cabcc 7 = .ok (.istore_n 3, 1) := by decide +kernel
theorem dJ8_newLength_cabcc_8 : decode cJ8_newLength_cabcc 8 = .ok (.iconst 0, 1) := by decide +kernel
theorem dJ8_newLength_cabcc_9 : decode cJ8_newLength_cabcc 9 = .ok (.iload_n 3, 1) := by decide +kernel
theorem dJ8_newLength_cabcc_10 : decode cJ8_newLength_cabcc 10 = .ok (.if_icmp .ge 11, 3) := by decide +kernel
theorem dJ8_newLength_cabcc_13 : decode cJ8_newLength_cabcc 13 = .ok (.iload_n 3, 1) := by decide +kernel
theorem dJ8_newLength_cabcc_14 : decode cJ8_newLength_cabcc 14 = .ok (.ldc 200, 2) := by decide +kernel
theorem dJ8_newLength_cabcc_16 : decode cJ8_newLength_cabcc 16 = .ok (.if_icmp .gt 5, 3) := by decide +kernel
theorem dJ8_newLength_cabcc_19 : decode cJ8_newLength_cabcc 19 = .ok (.iload_n 3, 1) := by decide +kernel
theorem dJ8_newLength_cabcc_20 : decode cJ8_newLength_cabcc 20 = .ok (.ireturn, 1) := by decide +kernel
theorem dJ8_newLength_cabcc_21 : decode cJ8_newLength_cabcc 21 = .ok (.iload_n 0, 1) := by decide +kernel
theorem dJ8_newLength_cabcc_22 : decode cJ8_newLength_cabcc 22 = .ok (.iload_n 1, 1) := by decide +kernel
theorem dJ8_newLength_cabcc_23 : decode cJ8_newLength_cabcc 23 = .ok (.invokestatic 201, 3) := by decide +kernel
theorem dJ8_newLength_cabcc_26 : decode cJ8_newLength_cabcc 26 = .ok (.ireturn, 1) := by decide +kernel
theorem dJ8_hugeLength_7cf53_0 : decode cJ8_hugeLength_7cf53 0 = .ok (.iload_n 0, 1) := by decide +kernel
theorem dJ8_hugeLength_7cf53_1 : decode cJ8_hugeLength_7cf53 1 = .ok (.iload_n 1, 1) := by decide +kernel
theorem dJ8_hugeLength_7cf53_2 : decode cJ8_hugeLength_7cf53 2 = .ok (.iadd, 1) := by decide +kernel
theorem dJ8_hugeLength_7cf53_3 : decode cJ8_hugeLength_7cf53 3 = .ok (.istore_n 2, 1) := by decide +kernel
theorem dJ8_hugeLength_7cf53_4 : decode cJ8_hugeLength_7cf53 4 = .ok (.iload_n 2, 1) := by decide +kernel
theorem dJ8_hugeLength_7cf53_5 : decode cJ8_hugeLength_7cf53 5 = .ok (.ifCond .ge 44, 3) := by decide +kernel
theorem dJ8_hugeLength_7cf53_8 : decode cJ8_hugeLength_7cf53 8 = .ok (.new 204, 3) := by decide +kernel
theorem dJ8_hugeLength_7cf53_11 : decode cJ8_hugeLength_7cf53 11 = .ok (.dup, 1) := by decide +kernel
theorem dJ8_hugeLength_7cf53_12 : decode cJ8_hugeLength_7cf53 12 = .ok (.new 89, 3) := by decide +kernel
theorem dJ8_hugeLength_7cf53_15 : decode cJ8_hugeLength_7cf53 15 = .ok (.dup, 1) := by decide +kernel
theorem dJ8_hugeLength_7cf53_16 : decode cJ8_hugeLength_7cf53 16 = .ok (.invokespecial 91, 3) := by decide +kernel
theorem dJ8_hugeLength_7cf53_19 : decode cJ8_hugeLength_7cf53 19 = .ok (.ldc 206, 2) := by decide +kernel
theorem dJ8_hugeLength_7cf53_21 : decode cJ8_hugeLength_7cf53 21 = .ok (.invokevirtual 94, 3) := by decide +kernel
theorem dJ8_hugeLength_7cf53_24 : decode cJ8_hugeLength_7cf53 24 = .ok (.iload_n 0, 1) := by decide +kernel
theorem dJ8_hugeLength_7cf53_25 : decode cJ8_hugeLength_7cf53 25 = .ok (.invokevirtual 98, 3) := by decide +kernel
theorem dJ8_hugeLength_7cf53_28 : decode cJ8_hugeLength_7cf53 28 = .ok (.ldc 208, 2) := by decide +kernel
theorem dJ8_hugeLength_7cf53_30 : decode cJ8_hugeLength_7cf53 30 = .ok (.invokevirtual 94, 3) := by decide +kernel
theorem dJ8_hugeLength_7cf53_33 : decode cJ8_hugeLength_7cf53 33 = .ok (.iload_n 1, 1) := by decide +kernel
theorem dJ8_hugeLength_7cf53_34 : decode cJ8_hugeLength_7cf53 34 = .ok (.invokevirtual 98, 3) := by decide +kernel
theorem dJ8_hugeLength_7cf53_37 : decode cJ8_hugeLength_7cf53 37 = .ok (.ldc 210, 2) := by decide +kernel
theorem dJ8_hugeLength_7cf53_39 : decode cJ8_hugeLength_7cf53 39 = .ok (.invokevirtual 94, 3) := by decide +kernel
theorem dJ8_hugeLength_7cf53_42 : decode cJ8_hugeLength_7cf53 42 = .ok (.invokevirtual 101, 3) := by decide +kernel
theorem dJ8_hugeLength_7cf53_45 : decode cJ8_hugeLength_7cf53 45 = .ok (.invokespecial 212, 3) := by decide +kernel
theorem dJ8_hugeLength_7cf53_48 : decode cJ8_hugeLength_7cf53 48 = .ok (.athrow, 1) := by decide +kernel
theorem dJ8_hugeLength_7cf53_49 : decode cJ8_hugeLength_7cf53 49 = .ok (.iload_n 2, 1) := by decide +kernel
theorem dJ8_hugeLength_7cf53_50 : decode cJ8_hugeLength_7cf53 50 = .ok (.ldc 200, 2) := by decide +kernel
theorem dJ8_hugeLength_7cf53_52 : decode cJ8_hugeLength_7cf53 52 = .ok (.if_icmp .gt 6, 3) := by decide +kernel
theorem dJ8_hugeLength_7cf53_55 : decode cJ8_hugeLength_7cf53 55 = .ok (.ldc 200, 2) := by decide +kernel
theorem dJ8_hugeLength_7cf53_57 : decode cJ8_hugeLength_7cf53 57 = .ok (.ireturn, 1) := by decide +kernel
theorem dJ8_hugeLength_7cf53_58 : decode cJ8_hugeLength_7cf53 58 = .ok (.iload_n 2, 1) := by decide +kernel
theorem dJ8_hugeLength_7cf53_59 : decode cJ8_hugeLength_7cf53 59 = .ok (.ireturn, 1) := by decide +kernel
theorem dJ3_checkIndex_8e157_0 : decode cJ3_checkIndex_8e157 0 = .ok (.iload_n 0, 1) := by decide +kernel
theorem dJ3_checkIndex_8e157_1 : decode cJ3_checkIndex_8e157 1 = .ok (.ifCond .lt 8, 3) := by decide +kernel
theorem dJ3_checkIndex_8e157_4 : decode cJ3_checkIndex_8e157 4 = .ok (.iload_n 0, 1) := by decide +kernel
theorem dJ3_checkIndex_8e157_5 : decode cJ3_checkIndex_8e157 5 = .ok (.iload_n 1, 1) := by decide +kernel
theorem dJ3_checkIndex_8e157_6 : decode cJ3_checkIndex_8e157 6 = .ok (.if_icmp .lt 10, 3) := by decide +kernel
theorem dJ3_checkIndex_8e157_9 : decode cJ3_checkIndex_8e157 9 = .ok (.aload_n 2, 1) := by decide +kernel
theorem dJ3_checkIndex_8e157_10 : decode cJ3_checkIndex_8e157 10 = .ok (.iload_n 0, 1) := by decide +kernel
theorem dJ3_checkIndex_8e157_11 : decode cJ3_checkIndex_8e157 11 = .ok (.iload_n 1, 1) := by decide +kernel
theorem dJ3_checkIndex_8e157_12 : decode cJ3_checkIndex_8e157 12 = .ok (.invokestatic 95, 3) := by decide +kernel
theorem dJ3_checkIndex_8e157_15 : decode cJ3_checkIndex_8e157 15 = .ok (.athrow, 1) := by decide +kernel
theorem dJ3_checkIndex_8e157_16 : decode cJ3_checkIndex_8e157 16 = .ok (.iload_n 0, 1) := by decide +kernel
theorem dJ3_checkIndex_8e157_17 : decode cJ3_checkIndex_8e157 17 = .ok (.ireturn, 1) := by decide +kernel
